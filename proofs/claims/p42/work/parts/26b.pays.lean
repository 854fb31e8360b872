/-- what pays leaves -/
def yPO (n : Nat → Int32) (f : Nat → Nat → Int32) (g : Nat → Nat → Int64) (nc ni np nl q9 c a : Nat) (O G P M R : Nat → Int32) (h' : xH) : Prop := (np = 24 ∧ ∃ jc jr, h' = xC (xLw O G P M R) nc ni np nl (n 1) f g jc jr) ∨ (np < 24 ∧ ∃ n' f' g' nl' jc jr, h' = xC (xLw O G (upd P np (nI c)) (upd M np (nI a)) R) nc ni (np + 1) nl' (n' 1) f' g' jc jr ∧ LSt n' f' g' nc ni (np + 1) nl' (q9 + 1) O G (upd P np (nI c)) (upd M np (nI a)) R)
theorem E_pay24 {n : Nat → Int32} {f : Nat → Nat → Int32} {g : Nat → Nat → Int64} {nc ni np nl c a : Nat} (hc : c < nc) (hc6 : nc ≤ 6) (ha : 1 ≤ a ∧ a ≤ 10000) (h24 : np = 24) : (o_postPayment nc ni np nl (nI c) (nI a) n f g).2.1 0 = 3 := by
  have hxc : xin (nI c) nc := xin_of hc (by omega)
  have hA : xokA (nI a) := ⟨(xle (a := 1) (b := a) (by omega) (by omega)).mpr ha.1, (xle (a := a) (b := 10000000) (by omega) (by omega)).mpr (by omega)⟩
  unfold o_postPayment
  rw [if_neg (fun z => z hxc), if_neg (fun z => z hA), if_pos h24]
  rfl
set_option maxRecDepth 100000 in
set_option maxHeartbeats 4000000 in
theorem p_pays {l : Launch} {N0 : Nat} {D : va_G} {dT : Nat → ClassId} (hflags : l.stackTraces = false) {n : Nat → Int32} {f : Nat → Nat → Int32} {g : Nat → Nat → Int64} {nc ni np nl q9 c a : Nat} {O G P M R : Nat → Int32} {jc : Nat → Nat → Int32} {jr : Nat → Int64} (hS : LSt n f g nc ni np nl q9 O G P M R) (hq : q9 ≤ 139) (hc : c < nc) (ha : 1 ≤ a ∧ a ≤ 10000) : xMetP l N0 D dT yL_pays cL_pays 17 (some FieldType.boolean) 12 140 17300 [.ref 0, .ref 230, .ref 232, .ref 233, .int (nI c), .int (R c), .int (nI a)] (xC (xLw O G P M R) nc ni np nl (n 1) f g jc jr) xnwB (fun r h' => r = some (.int 1) ∧ yPO n f g nc ni np nl q9 c a O G P M R h') := by
  obtain ⟨hJ, hK, hB⟩ := id hS
  have hnl := JI_nl hJ (by omega)
  obtain ⟨hI, ⟨t9, ht, ht2, hG⟩, hLl⟩ := id hJ
  obtain ⟨-, -, -, -, hc6, hi24, hp24, hl16⟩ := id hI
  have hk1 := hK.2.1
  have hT := yclr_z (c := nI c) hG hk1 hi24
  obtain ⟨X, hXe⟩ : ∃ X, xsumL (yclr f O (nI c)) ni = X := ⟨_, rfl⟩
  have hXT : X.toInt = zs (zw ni f (nI c)) ni := by rw [← hXe]; exact hT.2
  have hw := JG_W hG (nI c)
  have hT0 := zs_nn (t := zw ni f (nI c)) ni (fun i _ => hw i)
  have hT1 := (xall_z (f := f) (c := nI c) hi24)
  rw [hT1.1] at hT1
  have eA : (nI a).toInt = a := nI_toInt (by omega)
  have eA6 : (nI a).toInt64.toInt = a := nI64 (by omega)
  refine xMetP_of hflags (by decide +kernel) (fun j h1 h2 => by omega) (Nat.le_of_ble_eq_true rfl) ?_
  intro E C hN hret
  refine a_loc [(0, .ref 0), (1, .ref 230), (2, .ref 232), (3, .ref 233), (4, .int (nI c)), (5, .int (R c)), (6, .int (nI a))] (xsub_cons rfl (xsub_cons rfl (xsub_cons rfl (xsub_cons rfl (xsub_cons rfl (xsub_cons rfl (xsub_cons rfl (xsub_nil)))))))) ?_
  by_cases h24 : np = 24
  · have hpo : ∀ jc jr, yPO n f g nc ni np nl q9 c a O G P M R (xC (xLw O G P M R) nc ni np nl (n 1) f g jc jr) := fun jc jr => Or.inl ⟨h24, jc, jr, rfl⟩
    have e24 : (o_postPayment nc ni np nl (nI c) (nI a) n f g).2.1 0 = 3 := E_pay24 hc hc6 ha h24
    rcases xold_spec (f := f) (c := nI c) hi24 with ⟨hxo, hz⟩ | ⟨j, hj, hxo, hz1, hz2⟩
    · refine a_aload_n (i := 0) C dL_pays_0 rfl rfl ?_
      refine a_callV C dL_pays_1 cv_X6_payments tb150 (k_payments hflags) rfl rfl xC_0 rfl (Nat.le_of_ble_eq_true rfl) ⟨Nat.le_of_ble_eq_true rfl, Nat.le_of_ble_eq_true rfl⟩ ⟨Nat.le_of_ble_eq_true rfl, Nat.le_of_ble_eq_true rfl⟩ (fun _ h => h.elim) xav_no (fun _ _ h => h.elim) (fun r1 hp1 hq1 => ?_)
      obtain ⟨rfl, rfl⟩ := hq1
      refine a_istore (i := 7) C dL_pays_4 (by decide) ?_
      refine a_aload_n (i := 0) C dL_pays_6 rfl rfl ?_
      refine a_aload_n (i := 1) C dL_pays_7 rfl rfl ?_
      refine a_iload (i := 4) C dL_pays_8 rfl ?_
      refine a_callSP (na := 3) C hN dL_pays_10 ⟨tb921, tb23, tb922, ⟨by decide, by decide, by decide +kernel⟩⟩ tb920 (p_clear hflags xBs_w hJ (by omega) rfl) rfl rfl (Nat.le_of_ble_eq_true rfl) ⟨Nat.le_of_ble_eq_true rfl, Nat.le_of_ble_eq_true rfl⟩ ⟨Nat.le_of_ble_eq_true rfl, Nat.le_of_ble_eq_true rfl⟩ (fun _ h => h.elim) xav_no (fun r10 hp10 hq10 => ?_)
      obtain ⟨rfl, jc10, jr10, rfl⟩ := hq10
      rw [hXe]
      refine a_lstore (i := 8) C dL_pays_13 (by decide) ?_
      refine a_aload_n (i := 0) C dL_pays_15 rfl rfl ?_
      refine a_iload (i := 4) C dL_pays_16 rfl ?_
      refine a_callSN (na := 2) C hN dL_pays_18 ⟨tb930, tb23, tb931, ⟨by decide, by decide, by decide +kernel⟩⟩ tb929 (w_oldest hflags xBs_w hJ (by omega)) rfl rfl (Nat.le_of_ble_eq_true rfl) ⟨Nat.le_of_ble_eq_true rfl, Nat.le_of_ble_eq_true rfl⟩ ⟨Nat.le_of_ble_eq_true rfl, Nat.le_of_ble_eq_true rfl⟩ (fun _ h => h.elim) xav_no (fun r18 hp18 hq18 => ?_)
      obtain ⟨rfl, jc18, jr18, rfl⟩ := pP_rd (v' := xold f (nI c) ni) hq18 (xin_of hc (by omega)) (rfl)
      refine a_l2i C dL_pays_21 ?_
      refine a_top (-1) ((x6432 _).trans hxo) ?_
      refine a_istore (i := 10) C dL_pays_22 (by decide) ?_
      refine a_iload (i := 10) C dL_pays_24 rfl ?_
      refine a_if_ge (tgt := 33) C dL_pays_26 (by decide) (fun z => absurd z (by decide)) (fun _ => ?_)
      refine a_lconst (v := 0) C dL_pays_29 (by decide) ?_
      refine a_goto (tgt := 46) C dL_pays_30 (by decide) ?_
      refine a_lstore (i := 11) C dL_pays_46 (by decide) ?_
      refine a_loc [(0, .ref 0), (1, .ref 230), (2, .ref 232), (3, .ref 233), (4, .int (nI c)), (5, .int (R c)), (6, .int (nI a)), (7, .int (nI np)), (8, .long X), (10, .int (-1)), (11, .long 0)] (xsub_cons rfl (xsub_cons rfl (xsub_cons rfl (xsub_cons rfl (xsub_cons rfl (xsub_cons rfl (xsub_cons rfl (xsub_cons rfl (xsub_cons rfl (xsub_cons rfl (xsub_cons rfl (xsub_nil)))))))))))) ?_
      refine a_aload_n (i := 0) C dL_pays_48 rfl rfl ?_
      refine a_iload (i := 4) C dL_pays_49 rfl ?_
      refine a_iload (i := 6) C dL_pays_51 rfl ?_
      refine a_callSN (na := 3) C hN dL_pays_53 ⟨tb799, tb23, tb800, ⟨by decide, by decide, by decide +kernel⟩⟩ tb798 (v_pay hflags xBs_w hJ (by omega) (show ¬ (o_postPayment nc ni np nl (nI c) (nI a) n f g).2.1 0 = 0 from by rw [e24]; decide)) rfl rfl (Nat.le_of_ble_eq_true rfl) ⟨Nat.le_of_ble_eq_true rfl, Nat.le_of_ble_eq_true rfl⟩ ⟨Nat.le_of_ble_eq_true rfl, Nat.le_of_ble_eq_true rfl⟩ (fun _ h => h.elim) xav_no (fun r53 hp53 hq53 => ?_)
      obtain ⟨rfl, jc53, jr53, rfl⟩ := pP_no (k := 3) (v := eN) hq53 e24 (by decide) rfl
      refine a_lstore (i := 13) C dL_pays_56 (by decide) ?_
      refine a_iload (i := 7) C dL_pays_58 rfl ?_
      refine a_bipush (v := 24) C dL_pays_60 (by decide) ?_
      refine a_icmp_ne (tgt := 89) C dL_pays_62 (by decide) (fun c62 => ?_) (fun c62 => ?_)
      · exact absurd (by rw [h24]; rfl) c62
      · refine a_lload (i := 13) C dL_pays_65 rfl ?_
        refine a_ldc2 C dL_pays_67 tb340 ?_
        refine a_lcmp C dL_pays_70 ?_
        refine a_if_ne (tgt := 87) C dL_pays_71 (by decide) (fun c71 => ?_) (fun c71 => ?_)
        · exact absurd (lcmp_eq.mpr rfl) c71
        · refine a_aload_n (i := 0) C dL_pays_74 rfl rfl ?_
          refine a_callV C dL_pays_75 cv_X6_payments tb150 (k_payments hflags) rfl rfl xC_0 rfl (Nat.le_of_ble_eq_true rfl) ⟨Nat.le_of_ble_eq_true rfl, Nat.le_of_ble_eq_true rfl⟩ ⟨Nat.le_of_ble_eq_true rfl, Nat.le_of_ble_eq_true rfl⟩ (fun _ h => h.elim) xav_no (fun _ _ h => h.elim) (fun r75 hp75 hq75 => ?_)
          obtain ⟨rfl, rfl⟩ := hq75
          refine a_bipush (v := 24) C dL_pays_78 (by decide) ?_
          refine a_icmp_ne (tgt := 87) C dL_pays_80 (by decide) (fun c80 => ?_) (fun c80 => ?_)
          · exact absurd (by rw [h24]; rfl) c80
          · refine a_iconst (v := 1) C dL_pays_83 (by decide) ?_
            refine a_goto (tgt := 88) C dL_pays_84 (by decide) ?_
            exact a_zret C dL_pays_88 (by first | rfl | exact bI_nar) (Nat.le_of_ble_eq_true rfl) (Nat.le_of_ble_eq_true rfl) (hret _ _ ⟨rfl, hpo _ _⟩)
    · refine a_aload_n (i := 0) C dL_pays_0 rfl rfl ?_
      refine a_callV C dL_pays_1 cv_X6_payments tb150 (k_payments hflags) rfl rfl xC_0 rfl (Nat.le_of_ble_eq_true rfl) ⟨Nat.le_of_ble_eq_true rfl, Nat.le_of_ble_eq_true rfl⟩ ⟨Nat.le_of_ble_eq_true rfl, Nat.le_of_ble_eq_true rfl⟩ (fun _ h => h.elim) xav_no (fun _ _ h => h.elim) (fun r1 hp1 hq1 => ?_)
      obtain ⟨rfl, rfl⟩ := hq1
      refine a_istore (i := 7) C dL_pays_4 (by decide) ?_
      refine a_aload_n (i := 0) C dL_pays_6 rfl rfl ?_
      refine a_aload_n (i := 1) C dL_pays_7 rfl rfl ?_
      refine a_iload (i := 4) C dL_pays_8 rfl ?_
      refine a_callSP (na := 3) C hN dL_pays_10 ⟨tb921, tb23, tb922, ⟨by decide, by decide, by decide +kernel⟩⟩ tb920 (p_clear hflags xBs_w hJ (by omega) rfl) rfl rfl (Nat.le_of_ble_eq_true rfl) ⟨Nat.le_of_ble_eq_true rfl, Nat.le_of_ble_eq_true rfl⟩ ⟨Nat.le_of_ble_eq_true rfl, Nat.le_of_ble_eq_true rfl⟩ (fun _ h => h.elim) xav_no (fun r10 hp10 hq10 => ?_)
      obtain ⟨rfl, jc10, jr10, rfl⟩ := hq10
      rw [hXe]
      refine a_lstore (i := 8) C dL_pays_13 (by decide) ?_
      refine a_aload_n (i := 0) C dL_pays_15 rfl rfl ?_
      refine a_iload (i := 4) C dL_pays_16 rfl ?_
      refine a_callSN (na := 2) C hN dL_pays_18 ⟨tb930, tb23, tb931, ⟨by decide, by decide, by decide +kernel⟩⟩ tb929 (w_oldest hflags xBs_w hJ (by omega)) rfl rfl (Nat.le_of_ble_eq_true rfl) ⟨Nat.le_of_ble_eq_true rfl, Nat.le_of_ble_eq_true rfl⟩ ⟨Nat.le_of_ble_eq_true rfl, Nat.le_of_ble_eq_true rfl⟩ (fun _ h => h.elim) xav_no (fun r18 hp18 hq18 => ?_)
      obtain ⟨rfl, jc18, jr18, rfl⟩ := pP_rd (v' := xold f (nI c) ni) hq18 (xin_of hc (by omega)) (rfl)
      refine a_l2i C dL_pays_21 ?_
      refine a_top (nI j) ((x6432 _).trans hxo) ?_
      refine a_istore (i := 10) C dL_pays_22 (by decide) ?_
      refine a_iload (i := 10) C dL_pays_24 rfl ?_
      refine a_if_ge (tgt := 33) C dL_pays_26 (by decide) (fun c26 => ?_) (fun c26 => ?_)
      · refine a_aload_n (i := 0) C dL_pays_33 rfl rfl ?_
        refine a_iload (i := 10) C dL_pays_34 rfl ?_
        refine a_callSN (na := 2) C hN dL_pays_36 ⟨tb725, tb23, tb726, ⟨by decide, by decide, by decide +kernel⟩⟩ tb724 (w_open hflags xBs_w hJ (by omega)) rfl rfl (Nat.le_of_ble_eq_true rfl) ⟨Nat.le_of_ble_eq_true rfl, Nat.le_of_ble_eq_true rfl⟩ ⟨Nat.le_of_ble_eq_true rfl, Nat.le_of_ble_eq_true rfl⟩ (fun _ h => h.elim) xav_no (fun r36 hp36 hq36 => ?_)
        obtain ⟨rfl, jc36, jr36, rfl⟩ := pP_rd (v' := f 13 j) hq36 (xin_of hj (by omega)) (by rw [nI_clamp (by omega)])
        refine a_aload_n (i := 0) C dL_pays_39 rfl rfl ?_
        refine a_iload (i := 10) C dL_pays_40 rfl ?_
        refine a_callSN (na := 2) C hN dL_pays_42 ⟨tb732, tb23, tb733, ⟨by decide, by decide, by decide +kernel⟩⟩ tb731 (w_disputed hflags xBs_w hJ (by omega)) rfl rfl (Nat.le_of_ble_eq_true rfl) ⟨Nat.le_of_ble_eq_true rfl, Nat.le_of_ble_eq_true rfl⟩ ⟨Nat.le_of_ble_eq_true rfl, Nat.le_of_ble_eq_true rfl⟩ (fun _ h => h.elim) xav_no (fun r42 hp42 hq42 => ?_)
        obtain ⟨rfl, jc42, jr42, rfl⟩ := pP_rd (v' := f 14 j) hq42 (xin_of hj (by omega)) (by rw [nI_clamp (by omega)])
        refine a_lsub C dL_pays_45 ?_
        refine a_lstore (i := 11) C dL_pays_46 (by decide) ?_
        refine a_loc [(0, .ref 0), (1, .ref 230), (2, .ref 232), (3, .ref 233), (4, .int (nI c)), (5, .int (R c)), (6, .int (nI a)), (7, .int (nI np)), (8, .long X), (10, .int (nI j)), (11, .long ((f 13 j).toInt64 - (f 14 j).toInt64))] (xsub_cons rfl (xsub_cons rfl (xsub_cons rfl (xsub_cons rfl (xsub_cons rfl (xsub_cons rfl (xsub_cons rfl (xsub_cons rfl (xsub_cons rfl (xsub_cons rfl (xsub_cons rfl (xsub_nil)))))))))))) ?_
        refine a_aload_n (i := 0) C dL_pays_48 rfl rfl ?_
        refine a_iload (i := 4) C dL_pays_49 rfl ?_
        refine a_iload (i := 6) C dL_pays_51 rfl ?_
        refine a_callSN (na := 3) C hN dL_pays_53 ⟨tb799, tb23, tb800, ⟨by decide, by decide, by decide +kernel⟩⟩ tb798 (v_pay hflags xBs_w hJ (by omega) (show ¬ (o_postPayment nc ni np nl (nI c) (nI a) n f g).2.1 0 = 0 from by rw [e24]; decide)) rfl rfl (Nat.le_of_ble_eq_true rfl) ⟨Nat.le_of_ble_eq_true rfl, Nat.le_of_ble_eq_true rfl⟩ ⟨Nat.le_of_ble_eq_true rfl, Nat.le_of_ble_eq_true rfl⟩ (fun _ h => h.elim) xav_no (fun r53 hp53 hq53 => ?_)
        obtain ⟨rfl, jc53, jr53, rfl⟩ := pP_no (k := 3) (v := eN) hq53 e24 (by decide) rfl
        refine a_lstore (i := 13) C dL_pays_56 (by decide) ?_
        refine a_iload (i := 7) C dL_pays_58 rfl ?_
        refine a_bipush (v := 24) C dL_pays_60 (by decide) ?_
        refine a_icmp_ne (tgt := 89) C dL_pays_62 (by decide) (fun c62 => ?_) (fun c62 => ?_)
        · exact absurd (by rw [h24]; rfl) c62
        · refine a_lload (i := 13) C dL_pays_65 rfl ?_
          refine a_ldc2 C dL_pays_67 tb340 ?_
          refine a_lcmp C dL_pays_70 ?_
          refine a_if_ne (tgt := 87) C dL_pays_71 (by decide) (fun c71 => ?_) (fun c71 => ?_)
          · exact absurd (lcmp_eq.mpr rfl) c71
          · refine a_aload_n (i := 0) C dL_pays_74 rfl rfl ?_
            refine a_callV C dL_pays_75 cv_X6_payments tb150 (k_payments hflags) rfl rfl xC_0 rfl (Nat.le_of_ble_eq_true rfl) ⟨Nat.le_of_ble_eq_true rfl, Nat.le_of_ble_eq_true rfl⟩ ⟨Nat.le_of_ble_eq_true rfl, Nat.le_of_ble_eq_true rfl⟩ (fun _ h => h.elim) xav_no (fun _ _ h => h.elim) (fun r75 hp75 hq75 => ?_)
            obtain ⟨rfl, rfl⟩ := hq75
            refine a_bipush (v := 24) C dL_pays_78 (by decide) ?_
            refine a_icmp_ne (tgt := 87) C dL_pays_80 (by decide) (fun c80 => ?_) (fun c80 => ?_)
            · exact absurd (by rw [h24]; rfl) c80
            · refine a_iconst (v := 1) C dL_pays_83 (by decide) ?_
              refine a_goto (tgt := 88) C dL_pays_84 (by decide) ?_
              exact a_zret C dL_pays_88 (by first | rfl | exact bI_nar) (Nat.le_of_ble_eq_true rfl) (Nat.le_of_ble_eq_true rfl) (hret _ _ ⟨rfl, hpo _ _⟩)
      · exact absurd ((xle (a := 0) (b := j) (by omega) (by omega)).mpr (Nat.zero_le j)) c26
  · obtain ⟨n1, f1, g1, e1, e2, s1, S, y1, y2, y3, y4, y5, y6, y7, y8⟩ := E_pay hS (by omega) hc (a := nI a) (by omega) (by omega)
    have hl4 := lC_b4 (nl := nl) (JI_4 s1.1 (by omega))
    have hpo : ∀ jc jr, yPO n f g nc ni np nl q9 c a O G P M R (xC (xLw O G (upd P np (nI c)) (upd M np (nI a)) R) nc ni (np + 1) (mAR ni nl np (nI c).toNatClampNeg (nup (nup n 0 0) 4 (nI (np + 1))) (fup (fup f 19 (upd (f 19) np (nI c))) 20 (upd (f 20) np (nI a))) g).2.1 (n1 1) f1 g1 jc jr) := fun jc jr => Or.inr ⟨by omega, n1, f1, g1, _, jc, jr, rfl, s1⟩
    have hR := hK.2.2.2.1 c hc
    obtain ⟨-, ⟨t8, -, -, hG1⟩, -⟩ := id s1.1
    have e20 : (f1 20 np).toInt64.toInt = a - S := by rw [Int32.toInt_toInt64, y6, eA]
    have hT2 := yclr_z (c := nI c) hG1 s1.2.1.2.1 hi24
    have rS : ∀ L : Int64, L.toInt = a - S → L = (f1 20 np).toInt64 := fun L h => i64_inj (by rw [e20, h])
    have r2 : R c = 2 → (nI a).toInt64 = (f1 20 np).toInt64 := fun h => rS _ (by rw [y5 (by rw [← hR.1]; exact h), eA6]; omega)
    have r1 : X = 0 → (nI a).toInt64 = (f1 20 np).toInt64 := fun h => rS _ (by rw [h, i64_z] at hXT; rw [eA6]; omega)
    have hne : ¬ R c = 2 → f 6 c = 0 ∨ f 6 c = 1 := fun h => by
      rcases hR.2 with z | z | z
      · exact Or.inl z
      · exact Or.inr z
      · exact absurd (hR.1.trans z) h
    have r5 : ∀ L : Int64, L = (f1 20 np).toInt64 → xsumL (yclr f1 O (nI c)) ni = X - ((nI a).toInt64 - L) := fun L h => i64_inj (by
      subst h
      have d1 : ((nI a).toInt64 - (f1 20 np).toInt64).toInt = S := by rw [i64_sub (by omega) (by omega)]; omega
      rw [hT2.2, y7, i64_sub (by omega) (by omega), d1, hXT])
    rcases xold_spec (f := f) (c := nI c) hi24 with ⟨hxo, hz⟩ | ⟨j, hj, hxo, hz1, hz2⟩
    · have hX0 : X = 0 ↔ True := ⟨fun _ => trivial, fun _ => i64_inj (by rw [hXT, i64_z]; exact zs_all0 fun i hi => by have := hz i hi; have := hw i; omega)⟩
      have r3 : lg_cmp (nI a).toInt64 X ≤ 0 → (0 : Int64) = (f1 20 np).toInt64 := fun h => absurd h (fun z => by
        have h1 := lcmp_le.mp z
        rw [i64_lt, hX0.mpr trivial, i64_z, eA6] at h1
        omega)
      have r4 : ¬ R c = 2 → ¬ X = 0 → ¬ lg_cmp (nI a).toInt64 X ≤ 0 → (nI a).toInt64 - X = (f1 20 np).toInt64 := fun _ h => absurd (hX0.mpr trivial) h
      refine a_aload_n (i := 0) C dL_pays_0 rfl rfl ?_
      refine a_callV C dL_pays_1 cv_X6_payments tb150 (k_payments hflags) rfl rfl xC_0 rfl (Nat.le_of_ble_eq_true rfl) ⟨Nat.le_of_ble_eq_true rfl, Nat.le_of_ble_eq_true rfl⟩ ⟨Nat.le_of_ble_eq_true rfl, Nat.le_of_ble_eq_true rfl⟩ (fun _ h => h.elim) xav_no (fun _ _ h => h.elim) (fun r1 hp1 hq1 => ?_)
      obtain ⟨rfl, rfl⟩ := hq1
      refine a_istore (i := 7) C dL_pays_4 (by decide) ?_
      refine a_aload_n (i := 0) C dL_pays_6 rfl rfl ?_
      refine a_aload_n (i := 1) C dL_pays_7 rfl rfl ?_
      refine a_iload (i := 4) C dL_pays_8 rfl ?_
      refine a_callSP (na := 3) C hN dL_pays_10 ⟨tb921, tb23, tb922, ⟨by decide, by decide, by decide +kernel⟩⟩ tb920 (p_clear hflags xBs_w hJ (by omega) rfl) rfl rfl (Nat.le_of_ble_eq_true rfl) ⟨Nat.le_of_ble_eq_true rfl, Nat.le_of_ble_eq_true rfl⟩ ⟨Nat.le_of_ble_eq_true rfl, Nat.le_of_ble_eq_true rfl⟩ (fun _ h => h.elim) xav_no (fun r10 hp10 hq10 => ?_)
      obtain ⟨rfl, jc10, jr10, rfl⟩ := hq10
      rw [hXe]
      refine a_lstore (i := 8) C dL_pays_13 (by decide) ?_
      refine a_aload_n (i := 0) C dL_pays_15 rfl rfl ?_
      refine a_iload (i := 4) C dL_pays_16 rfl ?_
      refine a_callSN (na := 2) C hN dL_pays_18 ⟨tb930, tb23, tb931, ⟨by decide, by decide, by decide +kernel⟩⟩ tb929 (w_oldest hflags xBs_w hJ (by omega)) rfl rfl (Nat.le_of_ble_eq_true rfl) ⟨Nat.le_of_ble_eq_true rfl, Nat.le_of_ble_eq_true rfl⟩ ⟨Nat.le_of_ble_eq_true rfl, Nat.le_of_ble_eq_true rfl⟩ (fun _ h => h.elim) xav_no (fun r18 hp18 hq18 => ?_)
      obtain ⟨rfl, jc18, jr18, rfl⟩ := pP_rd (v' := xold f (nI c) ni) hq18 (xin_of hc (by omega)) (rfl)
      refine a_l2i C dL_pays_21 ?_
      refine a_top (-1) ((x6432 _).trans hxo) ?_
      refine a_istore (i := 10) C dL_pays_22 (by decide) ?_
      refine a_iload (i := 10) C dL_pays_24 rfl ?_
      refine a_if_ge (tgt := 33) C dL_pays_26 (by decide) (fun z => absurd z (by decide)) (fun _ => ?_)
      refine a_lconst (v := 0) C dL_pays_29 (by decide) ?_
      refine a_goto (tgt := 46) C dL_pays_30 (by decide) ?_
      refine a_lstore (i := 11) C dL_pays_46 (by decide) ?_
      refine a_loc [(0, .ref 0), (1, .ref 230), (2, .ref 232), (3, .ref 233), (4, .int (nI c)), (5, .int (R c)), (6, .int (nI a)), (7, .int (nI np)), (8, .long X), (10, .int (-1)), (11, .long 0)] (xsub_cons rfl (xsub_cons rfl (xsub_cons rfl (xsub_cons rfl (xsub_cons rfl (xsub_cons rfl (xsub_cons rfl (xsub_cons rfl (xsub_cons rfl (xsub_cons rfl (xsub_cons rfl (xsub_nil)))))))))))) ?_
      refine a_aload_n (i := 0) C dL_pays_48 rfl rfl ?_
      refine a_iload (i := 4) C dL_pays_49 rfl ?_
      refine a_iload (i := 6) C dL_pays_51 rfl ?_
      refine a_callSN (na := 3) C hN dL_pays_53 ⟨tb799, tb23, tb800, ⟨by decide, by decide, by decide +kernel⟩⟩ tb798 (w_pay hflags xBs_w hJ (by omega)) rfl rfl (Nat.le_of_ble_eq_true rfl) ⟨Nat.le_of_ble_eq_true rfl, Nat.le_of_ble_eq_true rfl⟩ ⟨show 0 + 0 + 48 + 1 + (6 + lCel nl _) ≤ 140 by omega, show 0 + 0 + 288 + 6 + (80 + lSlt nl _) ≤ 17300 by omega⟩ (fun _ h => h) ⟨fun q hq j hj => (by simp only [List.mem_cons, List.not_mem_nil, or_false] at hq; rcases hq with rfl | rfl | rfl | rfl | rfl | rfl | rfl | rfl | rfl | rfl | rfl <;> first | exact Value.noConfusion hj | exact xnwB_law (by decide) (Value.ref.inj hj)), fun v hv => nomatch hv⟩ (fun r53 hp53 hq53 => ?_)
      rw [e1] at hq53
      obtain ⟨rfl, jc53, jr53, rfl⟩ := pP_ok hq53 e2
      refine a_wd 75 16900 (by show _ ≤ 75; omega) (by show _ ≤ 16900; omega) ?_
      refine a_lstore (i := 13) C dL_pays_56 (by decide) ?_
      refine a_iload (i := 7) C dL_pays_58 rfl ?_
      refine a_bipush (v := 24) C dL_pays_60 (by decide) ?_
      refine a_icmp_ne (tgt := 89) C dL_pays_62 (by decide) (fun c62 => ?_) (fun c62 => ?_)
      · refine a_aload_n (i := 2) C dL_pays_89 rfl rfl ?_
        refine a_iload (i := 7) C dL_pays_90 rfl ?_
        refine a_iload (i := 4) C dL_pays_92 rfl ?_
        refine a_iastI C dL_pays_94 (xC_L rfl (by decide)) ⟨by omega, by omega⟩ ?_
        refine a_hp xw_P ?_
        refine a_aload_n (i := 3) C dL_pays_95 rfl rfl ?_
        refine a_iload (i := 7) C dL_pays_96 rfl ?_
        refine a_iload (i := 6) C dL_pays_98 rfl ?_
        refine a_iastI C dL_pays_100 (xC_L rfl (by decide)) ⟨by omega, by omega⟩ ?_
        refine a_hp xw_M ?_
        refine a_iload (i := 5) C dL_pays_101 rfl ?_
        refine a_iconst (v := 2) C dL_pays_103 (by decide) ?_
        refine a_icmp_eq (tgt := 114) C dL_pays_104 (by decide) (fun c104 => ?_) (fun c104 => ?_)
        · refine a_iload (i := 6) C dL_pays_114 rfl ?_
          refine a_i2l C dL_pays_116 ?_
          refine a_goto (tgt := 139) C dL_pays_117 (by decide) ?_
          refine a_lstore (i := 15) C dL_pays_139 (by decide) ?_
          refine a_loc [(0, .ref 0), (1, .ref 230), (2, .ref 232), (3, .ref 233), (4, .int (nI c)), (5, .int (R c)), (6, .int (nI a)), (7, .int (nI np)), (8, .long X), (10, .int (-1)), (11, .long 0), (13, .long (nI np).toInt64), (15, .long _)] (xsub_cons rfl (xsub_cons rfl (xsub_cons rfl (xsub_cons rfl (xsub_cons rfl (xsub_cons rfl (xsub_cons rfl (xsub_cons rfl (xsub_cons rfl (xsub_cons rfl (xsub_cons rfl (xsub_cons rfl (xsub_cons rfl (xsub_nil)))))))))))))) ?_
          first
          | exact py_tailA hflags C hN s1.1 s1.2.1 (by omega) (by omega) (fun jc jr => hret _ _ ⟨rfl, hpo jc jr⟩) (r3 c126) hX0 (r5 _ (r3 c126)) (by omega) (by omega)
          | exact py_tailA hflags C hN s1.1 s1.2.1 (by omega) (by omega) (fun jc jr => hret _ _ ⟨rfl, hpo jc jr⟩) (r4 (fun z => c104 z) (fun z => c111 (lcmp_eq.mpr z)) c126) hX0 (r5 _ (r4 (fun z => c104 z) (fun z => c111 (lcmp_eq.mpr z)) c126)) (by omega) (by omega)
          | exact py_tailA hflags C hN s1.1 s1.2.1 (by omega) (by omega) (fun jc jr => hret _ _ ⟨rfl, hpo jc jr⟩) (r1 (lcmp_eq.mp c111)) hX0 (r5 _ (r1 (lcmp_eq.mp c111))) (by omega) (by omega)
          | exact py_tailA hflags C hN s1.1 s1.2.1 (by omega) (by omega) (fun jc jr => hret _ _ ⟨rfl, hpo jc jr⟩) (r2 c104) hX0 (r5 _ (r2 c104)) (by omega) (by omega)
        · refine a_lload (i := 8) C dL_pays_107 rfl ?_
          refine a_lconst (v := 0) C dL_pays_109 (by decide) ?_
          refine a_lcmp C dL_pays_110 ?_
          refine a_if_ne (tgt := 120) C dL_pays_111 (by decide) (fun c111 => ?_) (fun c111 => ?_)
          · refine a_iload (i := 6) C dL_pays_120 rfl ?_
            refine a_i2l C dL_pays_122 ?_
            refine a_lload (i := 8) C dL_pays_123 rfl ?_
            refine a_lcmp C dL_pays_125 ?_
            refine a_if_le (tgt := 138) C dL_pays_126 (by decide) (fun c126 => ?_) (fun c126 => ?_)
            · refine a_lconst (v := 0) C dL_pays_138 (by decide) ?_
              refine a_lstore (i := 15) C dL_pays_139 (by decide) ?_
              refine a_loc [(0, .ref 0), (1, .ref 230), (2, .ref 232), (3, .ref 233), (4, .int (nI c)), (5, .int (R c)), (6, .int (nI a)), (7, .int (nI np)), (8, .long X), (10, .int (-1)), (11, .long 0), (13, .long (nI np).toInt64), (15, .long _)] (xsub_cons rfl (xsub_cons rfl (xsub_cons rfl (xsub_cons rfl (xsub_cons rfl (xsub_cons rfl (xsub_cons rfl (xsub_cons rfl (xsub_cons rfl (xsub_cons rfl (xsub_cons rfl (xsub_cons rfl (xsub_cons rfl (xsub_nil)))))))))))))) ?_
              first
              | exact py_tailA hflags C hN s1.1 s1.2.1 (by omega) (by omega) (fun jc jr => hret _ _ ⟨rfl, hpo jc jr⟩) (r3 c126) hX0 (r5 _ (r3 c126)) (by omega) (by omega)
              | exact py_tailA hflags C hN s1.1 s1.2.1 (by omega) (by omega) (fun jc jr => hret _ _ ⟨rfl, hpo jc jr⟩) (r4 (fun z => c104 z) (fun z => c111 (lcmp_eq.mpr z)) c126) hX0 (r5 _ (r4 (fun z => c104 z) (fun z => c111 (lcmp_eq.mpr z)) c126)) (by omega) (by omega)
              | exact py_tailA hflags C hN s1.1 s1.2.1 (by omega) (by omega) (fun jc jr => hret _ _ ⟨rfl, hpo jc jr⟩) (r1 (lcmp_eq.mp c111)) hX0 (r5 _ (r1 (lcmp_eq.mp c111))) (by omega) (by omega)
              | exact py_tailA hflags C hN s1.1 s1.2.1 (by omega) (by omega) (fun jc jr => hret _ _ ⟨rfl, hpo jc jr⟩) (r2 c104) hX0 (r5 _ (r2 c104)) (by omega) (by omega)
            · refine a_iload (i := 6) C dL_pays_129 rfl ?_
              refine a_i2l C dL_pays_131 ?_
              refine a_lload (i := 8) C dL_pays_132 rfl ?_
              refine a_lsub C dL_pays_134 ?_
              refine a_goto (tgt := 139) C dL_pays_135 (by decide) ?_
              refine a_lstore (i := 15) C dL_pays_139 (by decide) ?_
              refine a_loc [(0, .ref 0), (1, .ref 230), (2, .ref 232), (3, .ref 233), (4, .int (nI c)), (5, .int (R c)), (6, .int (nI a)), (7, .int (nI np)), (8, .long X), (10, .int (-1)), (11, .long 0), (13, .long (nI np).toInt64), (15, .long _)] (xsub_cons rfl (xsub_cons rfl (xsub_cons rfl (xsub_cons rfl (xsub_cons rfl (xsub_cons rfl (xsub_cons rfl (xsub_cons rfl (xsub_cons rfl (xsub_cons rfl (xsub_cons rfl (xsub_cons rfl (xsub_cons rfl (xsub_nil)))))))))))))) ?_
              first
              | exact py_tailA hflags C hN s1.1 s1.2.1 (by omega) (by omega) (fun jc jr => hret _ _ ⟨rfl, hpo jc jr⟩) (r3 c126) hX0 (r5 _ (r3 c126)) (by omega) (by omega)
              | exact py_tailA hflags C hN s1.1 s1.2.1 (by omega) (by omega) (fun jc jr => hret _ _ ⟨rfl, hpo jc jr⟩) (r4 (fun z => c104 z) (fun z => c111 (lcmp_eq.mpr z)) c126) hX0 (r5 _ (r4 (fun z => c104 z) (fun z => c111 (lcmp_eq.mpr z)) c126)) (by omega) (by omega)
              | exact py_tailA hflags C hN s1.1 s1.2.1 (by omega) (by omega) (fun jc jr => hret _ _ ⟨rfl, hpo jc jr⟩) (r1 (lcmp_eq.mp c111)) hX0 (r5 _ (r1 (lcmp_eq.mp c111))) (by omega) (by omega)
              | exact py_tailA hflags C hN s1.1 s1.2.1 (by omega) (by omega) (fun jc jr => hret _ _ ⟨rfl, hpo jc jr⟩) (r2 c104) hX0 (r5 _ (r2 c104)) (by omega) (by omega)
          · refine a_iload (i := 6) C dL_pays_114 rfl ?_
            refine a_i2l C dL_pays_116 ?_
            refine a_goto (tgt := 139) C dL_pays_117 (by decide) ?_
            refine a_lstore (i := 15) C dL_pays_139 (by decide) ?_
            refine a_loc [(0, .ref 0), (1, .ref 230), (2, .ref 232), (3, .ref 233), (4, .int (nI c)), (5, .int (R c)), (6, .int (nI a)), (7, .int (nI np)), (8, .long X), (10, .int (-1)), (11, .long 0), (13, .long (nI np).toInt64), (15, .long _)] (xsub_cons rfl (xsub_cons rfl (xsub_cons rfl (xsub_cons rfl (xsub_cons rfl (xsub_cons rfl (xsub_cons rfl (xsub_cons rfl (xsub_cons rfl (xsub_cons rfl (xsub_cons rfl (xsub_cons rfl (xsub_cons rfl (xsub_nil)))))))))))))) ?_
            first
            | exact py_tailA hflags C hN s1.1 s1.2.1 (by omega) (by omega) (fun jc jr => hret _ _ ⟨rfl, hpo jc jr⟩) (r3 c126) hX0 (r5 _ (r3 c126)) (by omega) (by omega)
            | exact py_tailA hflags C hN s1.1 s1.2.1 (by omega) (by omega) (fun jc jr => hret _ _ ⟨rfl, hpo jc jr⟩) (r4 (fun z => c104 z) (fun z => c111 (lcmp_eq.mpr z)) c126) hX0 (r5 _ (r4 (fun z => c104 z) (fun z => c111 (lcmp_eq.mpr z)) c126)) (by omega) (by omega)
            | exact py_tailA hflags C hN s1.1 s1.2.1 (by omega) (by omega) (fun jc jr => hret _ _ ⟨rfl, hpo jc jr⟩) (r1 (lcmp_eq.mp c111)) hX0 (r5 _ (r1 (lcmp_eq.mp c111))) (by omega) (by omega)
            | exact py_tailA hflags C hN s1.1 s1.2.1 (by omega) (by omega) (fun jc jr => hret _ _ ⟨rfl, hpo jc jr⟩) (r2 c104) hX0 (r5 _ (r2 c104)) (by omega) (by omega)
      · exact absurd ((nI_eq (by omega) (by omega)).mp (show nI np = nI 24 from c62)) h24
    · have hX0 : X = 0 ↔ False := ⟨fun z => by
        rw [z, i64_z] at hXT
        have := zs_mem (t := zw ni f (nI c)) ni (fun i _ => hw i) hj
        omega, False.elim⟩
      have r3a : ¬ R c = 2 → lg_cmp (nI a).toInt64 X ≤ 0 → (0 : Int64) = (f1 20 np).toInt64 := fun h2 h => rS _ (by
        have h1 := lcmp_le.mp h
        rw [i64_lt, eA6, hXT] at h1
        have h3 := y4 (hne h2)
        rw [i64_z]
        omega)
      have r4 : ¬ R c = 2 → ¬ X = 0 → ¬ lg_cmp (nI a).toInt64 X ≤ 0 → (nI a).toInt64 - X = (f1 20 np).toInt64 := fun h2 _ h => rS _ (by
        have h1 := Classical.not_not.mp (mt lcmp_le.mpr h)
        rw [i64_lt, eA6, hXT] at h1
        have h3 := y4 (hne h2)
        rw [i64_sub (by omega) (by omega)]
        omega)
      have hzw : zw ni f (nI c) j = (f 13 j).toInt - (f 14 j).toInt := by
        by_cases z : f 10 j = nI c
        · exact zw_of hG hj z
        · rw [zw_no z] at hz1; omega
      have hOF : ((f 13 j).toInt64 - (f 14 j).toInt64).toInt = zw ni f (nI c) j := by
        have b1 := i32_rng (f 13 j)
        have b2 := i32_rng (f 14 j)
        rw [i64_sub (by rw [Int32.toInt_toInt64, Int32.toInt_toInt64]; omega) (by rw [Int32.toInt_toInt64, Int32.toInt_toInt64]; omega), Int32.toInt_toInt64, Int32.toInt_toInt64, hzw]
      have hF : R c = 0 → (f1 22 (24 * np + j)).toInt64 = if (nI a).toInt64 < (f 13 j).toInt64 - (f 14 j).toInt64 then (nI a).toInt64 else (f 13 j).toInt64 - (f 14 j).toInt64 := fun h => i64_inj (by
        have h3 := y8 (by rw [← hR.1]; exact h) j hj hz2
        rw [eA] at h3
        rw [Int32.toInt_toInt64, h3]
        by_cases z : (nI a).toInt64 < (f 13 j).toInt64 - (f 14 j).toInt64
        · rw [if_pos z, eA6]
          rw [i64_lt, eA6, hOF] at z
          rw [if_pos z]
        · rw [if_neg z, hOF]
          rw [i64_lt, eA6, hOF] at z
          rw [if_neg z])
      refine a_aload_n (i := 0) C dL_pays_0 rfl rfl ?_
      refine a_callV C dL_pays_1 cv_X6_payments tb150 (k_payments hflags) rfl rfl xC_0 rfl (Nat.le_of_ble_eq_true rfl) ⟨Nat.le_of_ble_eq_true rfl, Nat.le_of_ble_eq_true rfl⟩ ⟨Nat.le_of_ble_eq_true rfl, Nat.le_of_ble_eq_true rfl⟩ (fun _ h => h.elim) xav_no (fun _ _ h => h.elim) (fun r1 hp1 hq1 => ?_)
      obtain ⟨rfl, rfl⟩ := hq1
      refine a_istore (i := 7) C dL_pays_4 (by decide) ?_
      refine a_aload_n (i := 0) C dL_pays_6 rfl rfl ?_
      refine a_aload_n (i := 1) C dL_pays_7 rfl rfl ?_
      refine a_iload (i := 4) C dL_pays_8 rfl ?_
      refine a_callSP (na := 3) C hN dL_pays_10 ⟨tb921, tb23, tb922, ⟨by decide, by decide, by decide +kernel⟩⟩ tb920 (p_clear hflags xBs_w hJ (by omega) rfl) rfl rfl (Nat.le_of_ble_eq_true rfl) ⟨Nat.le_of_ble_eq_true rfl, Nat.le_of_ble_eq_true rfl⟩ ⟨Nat.le_of_ble_eq_true rfl, Nat.le_of_ble_eq_true rfl⟩ (fun _ h => h.elim) xav_no (fun r10 hp10 hq10 => ?_)
      obtain ⟨rfl, jc10, jr10, rfl⟩ := hq10
      rw [hXe]
      refine a_lstore (i := 8) C dL_pays_13 (by decide) ?_
      refine a_aload_n (i := 0) C dL_pays_15 rfl rfl ?_
      refine a_iload (i := 4) C dL_pays_16 rfl ?_
      refine a_callSN (na := 2) C hN dL_pays_18 ⟨tb930, tb23, tb931, ⟨by decide, by decide, by decide +kernel⟩⟩ tb929 (w_oldest hflags xBs_w hJ (by omega)) rfl rfl (Nat.le_of_ble_eq_true rfl) ⟨Nat.le_of_ble_eq_true rfl, Nat.le_of_ble_eq_true rfl⟩ ⟨Nat.le_of_ble_eq_true rfl, Nat.le_of_ble_eq_true rfl⟩ (fun _ h => h.elim) xav_no (fun r18 hp18 hq18 => ?_)
      obtain ⟨rfl, jc18, jr18, rfl⟩ := pP_rd (v' := xold f (nI c) ni) hq18 (xin_of hc (by omega)) (rfl)
      refine a_l2i C dL_pays_21 ?_
      refine a_top (nI j) ((x6432 _).trans hxo) ?_
      refine a_istore (i := 10) C dL_pays_22 (by decide) ?_
      refine a_iload (i := 10) C dL_pays_24 rfl ?_
      refine a_if_ge (tgt := 33) C dL_pays_26 (by decide) (fun c26 => ?_) (fun c26 => ?_)
      · refine a_aload_n (i := 0) C dL_pays_33 rfl rfl ?_
        refine a_iload (i := 10) C dL_pays_34 rfl ?_
        refine a_callSN (na := 2) C hN dL_pays_36 ⟨tb725, tb23, tb726, ⟨by decide, by decide, by decide +kernel⟩⟩ tb724 (w_open hflags xBs_w hJ (by omega)) rfl rfl (Nat.le_of_ble_eq_true rfl) ⟨Nat.le_of_ble_eq_true rfl, Nat.le_of_ble_eq_true rfl⟩ ⟨Nat.le_of_ble_eq_true rfl, Nat.le_of_ble_eq_true rfl⟩ (fun _ h => h.elim) xav_no (fun r36 hp36 hq36 => ?_)
        obtain ⟨rfl, jc36, jr36, rfl⟩ := pP_rd (v' := f 13 j) hq36 (xin_of hj (by omega)) (by rw [nI_clamp (by omega)])
        refine a_aload_n (i := 0) C dL_pays_39 rfl rfl ?_
        refine a_iload (i := 10) C dL_pays_40 rfl ?_
        refine a_callSN (na := 2) C hN dL_pays_42 ⟨tb732, tb23, tb733, ⟨by decide, by decide, by decide +kernel⟩⟩ tb731 (w_disputed hflags xBs_w hJ (by omega)) rfl rfl (Nat.le_of_ble_eq_true rfl) ⟨Nat.le_of_ble_eq_true rfl, Nat.le_of_ble_eq_true rfl⟩ ⟨Nat.le_of_ble_eq_true rfl, Nat.le_of_ble_eq_true rfl⟩ (fun _ h => h.elim) xav_no (fun r42 hp42 hq42 => ?_)
        obtain ⟨rfl, jc42, jr42, rfl⟩ := pP_rd (v' := f 14 j) hq42 (xin_of hj (by omega)) (by rw [nI_clamp (by omega)])
        refine a_lsub C dL_pays_45 ?_
        refine a_lstore (i := 11) C dL_pays_46 (by decide) ?_
        refine a_loc [(0, .ref 0), (1, .ref 230), (2, .ref 232), (3, .ref 233), (4, .int (nI c)), (5, .int (R c)), (6, .int (nI a)), (7, .int (nI np)), (8, .long X), (10, .int (nI j)), (11, .long ((f 13 j).toInt64 - (f 14 j).toInt64))] (xsub_cons rfl (xsub_cons rfl (xsub_cons rfl (xsub_cons rfl (xsub_cons rfl (xsub_cons rfl (xsub_cons rfl (xsub_cons rfl (xsub_cons rfl (xsub_cons rfl (xsub_cons rfl (xsub_nil)))))))))))) ?_
        refine a_aload_n (i := 0) C dL_pays_48 rfl rfl ?_
        refine a_iload (i := 4) C dL_pays_49 rfl ?_
        refine a_iload (i := 6) C dL_pays_51 rfl ?_
        refine a_callSN (na := 3) C hN dL_pays_53 ⟨tb799, tb23, tb800, ⟨by decide, by decide, by decide +kernel⟩⟩ tb798 (w_pay hflags xBs_w hJ (by omega)) rfl rfl (Nat.le_of_ble_eq_true rfl) ⟨Nat.le_of_ble_eq_true rfl, Nat.le_of_ble_eq_true rfl⟩ ⟨show 0 + 0 + 48 + 1 + 1 + 1 + (6 + lCel nl _) ≤ 140 by omega, show 0 + 0 + 288 + 6 + 6 + 6 + (80 + lSlt nl _) ≤ 17300 by omega⟩ (fun _ h => h) ⟨fun q hq j hj => (by simp only [List.mem_cons, List.not_mem_nil, or_false] at hq; rcases hq with rfl | rfl | rfl | rfl | rfl | rfl | rfl | rfl | rfl | rfl | rfl <;> first | exact Value.noConfusion hj | exact xnwB_law (by decide) (Value.ref.inj hj)), fun v hv => nomatch hv⟩ (fun r53 hp53 hq53 => ?_)
        rw [e1] at hq53
        obtain ⟨rfl, jc53, jr53, rfl⟩ := pP_ok hq53 e2
        refine a_wd 75 16900 (by show _ ≤ 75; omega) (by show _ ≤ 16900; omega) ?_
        refine a_lstore (i := 13) C dL_pays_56 (by decide) ?_
        refine a_iload (i := 7) C dL_pays_58 rfl ?_
        refine a_bipush (v := 24) C dL_pays_60 (by decide) ?_
        refine a_icmp_ne (tgt := 89) C dL_pays_62 (by decide) (fun c62 => ?_) (fun c62 => ?_)
        · refine a_aload_n (i := 2) C dL_pays_89 rfl rfl ?_
          refine a_iload (i := 7) C dL_pays_90 rfl ?_
          refine a_iload (i := 4) C dL_pays_92 rfl ?_
          refine a_iastI C dL_pays_94 (xC_L rfl (by decide)) ⟨by omega, by omega⟩ ?_
          refine a_hp xw_P ?_
          refine a_aload_n (i := 3) C dL_pays_95 rfl rfl ?_
          refine a_iload (i := 7) C dL_pays_96 rfl ?_
          refine a_iload (i := 6) C dL_pays_98 rfl ?_
          refine a_iastI C dL_pays_100 (xC_L rfl (by decide)) ⟨by omega, by omega⟩ ?_
          refine a_hp xw_M ?_
          refine a_iload (i := 5) C dL_pays_101 rfl ?_
          refine a_iconst (v := 2) C dL_pays_103 (by decide) ?_
          refine a_icmp_eq (tgt := 114) C dL_pays_104 (by decide) (fun c104 => ?_) (fun c104 => ?_)
          · refine a_iload (i := 6) C dL_pays_114 rfl ?_
            refine a_i2l C dL_pays_116 ?_
            refine a_goto (tgt := 139) C dL_pays_117 (by decide) ?_
            refine a_lstore (i := 15) C dL_pays_139 (by decide) ?_
            refine a_loc [(0, .ref 0), (1, .ref 230), (2, .ref 232), (3, .ref 233), (4, .int (nI c)), (5, .int (R c)), (6, .int (nI a)), (7, .int (nI np)), (8, .long X), (10, .int (nI j)), (11, .long ((f 13 j).toInt64 - (f 14 j).toInt64)), (13, .long (nI np).toInt64), (15, .long _)] (xsub_cons rfl (xsub_cons rfl (xsub_cons rfl (xsub_cons rfl (xsub_cons rfl (xsub_cons rfl (xsub_cons rfl (xsub_cons rfl (xsub_cons rfl (xsub_cons rfl (xsub_cons rfl (xsub_cons rfl (xsub_cons rfl (xsub_nil)))))))))))))) ?_
            first
            | exact py_tailB hflags C hN s1.1 s1.2.1 (by omega) (by omega) (fun jc jr => hret _ _ ⟨rfl, hpo jc jr⟩) (r3a (fun z => c104 z) c126) hX0 (r5 _ (r3a (fun z => c104 z) c126)) hj hF (by omega) (by omega)
            | exact py_tailB hflags C hN s1.1 s1.2.1 (by omega) (by omega) (fun jc jr => hret _ _ ⟨rfl, hpo jc jr⟩) (r4 (fun z => c104 z) (fun z => c111 (lcmp_eq.mpr z)) c126) hX0 (r5 _ (r4 (fun z => c104 z) (fun z => c111 (lcmp_eq.mpr z)) c126)) hj hF (by omega) (by omega)
            | exact py_tailB hflags C hN s1.1 s1.2.1 (by omega) (by omega) (fun jc jr => hret _ _ ⟨rfl, hpo jc jr⟩) (r1 (lcmp_eq.mp c111)) hX0 (r5 _ (r1 (lcmp_eq.mp c111))) hj hF (by omega) (by omega)
            | exact py_tailB hflags C hN s1.1 s1.2.1 (by omega) (by omega) (fun jc jr => hret _ _ ⟨rfl, hpo jc jr⟩) (r2 c104) hX0 (r5 _ (r2 c104)) hj hF (by omega) (by omega)
          · refine a_lload (i := 8) C dL_pays_107 rfl ?_
            refine a_lconst (v := 0) C dL_pays_109 (by decide) ?_
            refine a_lcmp C dL_pays_110 ?_
            refine a_if_ne (tgt := 120) C dL_pays_111 (by decide) (fun c111 => ?_) (fun c111 => ?_)
            · refine a_iload (i := 6) C dL_pays_120 rfl ?_
              refine a_i2l C dL_pays_122 ?_
              refine a_lload (i := 8) C dL_pays_123 rfl ?_
              refine a_lcmp C dL_pays_125 ?_
              refine a_if_le (tgt := 138) C dL_pays_126 (by decide) (fun c126 => ?_) (fun c126 => ?_)
              · refine a_lconst (v := 0) C dL_pays_138 (by decide) ?_
                refine a_lstore (i := 15) C dL_pays_139 (by decide) ?_
                refine a_loc [(0, .ref 0), (1, .ref 230), (2, .ref 232), (3, .ref 233), (4, .int (nI c)), (5, .int (R c)), (6, .int (nI a)), (7, .int (nI np)), (8, .long X), (10, .int (nI j)), (11, .long ((f 13 j).toInt64 - (f 14 j).toInt64)), (13, .long (nI np).toInt64), (15, .long _)] (xsub_cons rfl (xsub_cons rfl (xsub_cons rfl (xsub_cons rfl (xsub_cons rfl (xsub_cons rfl (xsub_cons rfl (xsub_cons rfl (xsub_cons rfl (xsub_cons rfl (xsub_cons rfl (xsub_cons rfl (xsub_cons rfl (xsub_nil)))))))))))))) ?_
                first
                | exact py_tailB hflags C hN s1.1 s1.2.1 (by omega) (by omega) (fun jc jr => hret _ _ ⟨rfl, hpo jc jr⟩) (r3a (fun z => c104 z) c126) hX0 (r5 _ (r3a (fun z => c104 z) c126)) hj hF (by omega) (by omega)
                | exact py_tailB hflags C hN s1.1 s1.2.1 (by omega) (by omega) (fun jc jr => hret _ _ ⟨rfl, hpo jc jr⟩) (r4 (fun z => c104 z) (fun z => c111 (lcmp_eq.mpr z)) c126) hX0 (r5 _ (r4 (fun z => c104 z) (fun z => c111 (lcmp_eq.mpr z)) c126)) hj hF (by omega) (by omega)
                | exact py_tailB hflags C hN s1.1 s1.2.1 (by omega) (by omega) (fun jc jr => hret _ _ ⟨rfl, hpo jc jr⟩) (r1 (lcmp_eq.mp c111)) hX0 (r5 _ (r1 (lcmp_eq.mp c111))) hj hF (by omega) (by omega)
                | exact py_tailB hflags C hN s1.1 s1.2.1 (by omega) (by omega) (fun jc jr => hret _ _ ⟨rfl, hpo jc jr⟩) (r2 c104) hX0 (r5 _ (r2 c104)) hj hF (by omega) (by omega)
              · refine a_iload (i := 6) C dL_pays_129 rfl ?_
                refine a_i2l C dL_pays_131 ?_
                refine a_lload (i := 8) C dL_pays_132 rfl ?_
                refine a_lsub C dL_pays_134 ?_
                refine a_goto (tgt := 139) C dL_pays_135 (by decide) ?_
                refine a_lstore (i := 15) C dL_pays_139 (by decide) ?_
                refine a_loc [(0, .ref 0), (1, .ref 230), (2, .ref 232), (3, .ref 233), (4, .int (nI c)), (5, .int (R c)), (6, .int (nI a)), (7, .int (nI np)), (8, .long X), (10, .int (nI j)), (11, .long ((f 13 j).toInt64 - (f 14 j).toInt64)), (13, .long (nI np).toInt64), (15, .long _)] (xsub_cons rfl (xsub_cons rfl (xsub_cons rfl (xsub_cons rfl (xsub_cons rfl (xsub_cons rfl (xsub_cons rfl (xsub_cons rfl (xsub_cons rfl (xsub_cons rfl (xsub_cons rfl (xsub_cons rfl (xsub_cons rfl (xsub_nil)))))))))))))) ?_
                first
                | exact py_tailB hflags C hN s1.1 s1.2.1 (by omega) (by omega) (fun jc jr => hret _ _ ⟨rfl, hpo jc jr⟩) (r3a (fun z => c104 z) c126) hX0 (r5 _ (r3a (fun z => c104 z) c126)) hj hF (by omega) (by omega)
                | exact py_tailB hflags C hN s1.1 s1.2.1 (by omega) (by omega) (fun jc jr => hret _ _ ⟨rfl, hpo jc jr⟩) (r4 (fun z => c104 z) (fun z => c111 (lcmp_eq.mpr z)) c126) hX0 (r5 _ (r4 (fun z => c104 z) (fun z => c111 (lcmp_eq.mpr z)) c126)) hj hF (by omega) (by omega)
                | exact py_tailB hflags C hN s1.1 s1.2.1 (by omega) (by omega) (fun jc jr => hret _ _ ⟨rfl, hpo jc jr⟩) (r1 (lcmp_eq.mp c111)) hX0 (r5 _ (r1 (lcmp_eq.mp c111))) hj hF (by omega) (by omega)
                | exact py_tailB hflags C hN s1.1 s1.2.1 (by omega) (by omega) (fun jc jr => hret _ _ ⟨rfl, hpo jc jr⟩) (r2 c104) hX0 (r5 _ (r2 c104)) hj hF (by omega) (by omega)
            · refine a_iload (i := 6) C dL_pays_114 rfl ?_
              refine a_i2l C dL_pays_116 ?_
              refine a_goto (tgt := 139) C dL_pays_117 (by decide) ?_
              refine a_lstore (i := 15) C dL_pays_139 (by decide) ?_
              refine a_loc [(0, .ref 0), (1, .ref 230), (2, .ref 232), (3, .ref 233), (4, .int (nI c)), (5, .int (R c)), (6, .int (nI a)), (7, .int (nI np)), (8, .long X), (10, .int (nI j)), (11, .long ((f 13 j).toInt64 - (f 14 j).toInt64)), (13, .long (nI np).toInt64), (15, .long _)] (xsub_cons rfl (xsub_cons rfl (xsub_cons rfl (xsub_cons rfl (xsub_cons rfl (xsub_cons rfl (xsub_cons rfl (xsub_cons rfl (xsub_cons rfl (xsub_cons rfl (xsub_cons rfl (xsub_cons rfl (xsub_cons rfl (xsub_nil)))))))))))))) ?_
              first
              | exact py_tailB hflags C hN s1.1 s1.2.1 (by omega) (by omega) (fun jc jr => hret _ _ ⟨rfl, hpo jc jr⟩) (r3a (fun z => c104 z) c126) hX0 (r5 _ (r3a (fun z => c104 z) c126)) hj hF (by omega) (by omega)
              | exact py_tailB hflags C hN s1.1 s1.2.1 (by omega) (by omega) (fun jc jr => hret _ _ ⟨rfl, hpo jc jr⟩) (r4 (fun z => c104 z) (fun z => c111 (lcmp_eq.mpr z)) c126) hX0 (r5 _ (r4 (fun z => c104 z) (fun z => c111 (lcmp_eq.mpr z)) c126)) hj hF (by omega) (by omega)
              | exact py_tailB hflags C hN s1.1 s1.2.1 (by omega) (by omega) (fun jc jr => hret _ _ ⟨rfl, hpo jc jr⟩) (r1 (lcmp_eq.mp c111)) hX0 (r5 _ (r1 (lcmp_eq.mp c111))) hj hF (by omega) (by omega)
              | exact py_tailB hflags C hN s1.1 s1.2.1 (by omega) (by omega) (fun jc jr => hret _ _ ⟨rfl, hpo jc jr⟩) (r2 c104) hX0 (r5 _ (r2 c104)) hj hF (by omega) (by omega)
        · exact absurd ((nI_eq (by omega) (by omega)).mp (show nI np = nI 24 from c62)) h24
      · exact absurd ((xle (a := 0) (b := j) (by omega) (by omega)).mpr (Nat.zero_le j)) c26
