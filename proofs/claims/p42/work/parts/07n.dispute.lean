theorem xpre_c {t t' o : Nat → Int32} {k : Nat} (h : ∀ i, i < k → t i = t' i) : xpre t o k = xpre t' o k := by
  funext q
  unfold xpre
  by_cases hq : q < k
  · rw [if_pos hq, if_pos hq, h q hq]
  · rw [if_neg hq, if_neg hq]
theorem xsum_c {t t' : Nat → Int32} : ∀ k, (∀ i, i < k → t i = t' i) → xsum t k = xsum t' k := by
  intro k
  induction k with
  | zero => intro _; rfl
  | succ k ih =>
    intro h
    show xsum t k + t k = xsum t' k + t' k
    rw [ih (fun i hi => h i (by omega)), h k (by omega)]
set_option maxRecDepth 100000 in
set_option maxHeartbeats 4000000 in
theorem m_X6_disputeAll {l : Launch} {N0 : Nat} {D : va_G} {dT : Nat → ClassId} (hflags : l.stackTraces = false) {h : xH} {nc ni np nl : Nat} {n : Nat → Int32} {f : Nat → Nat → Int32} {g : Nat → Nat → Int64} {jc : Nat → Nat → Int32} {jr : Nat → Int64} (hB : nc ≤ 6 ∧ ni ≤ 24 ∧ np ≤ 24 ∧ nl ≤ 16000) {w a : Int32} (hW : ∀ c j, 0 ≤ zw ni f c j) (hO : ∀ i, i < ni → ∃ k, k < nc ∧ f 10 i = nI k)  : xMet l N0 D dT yX6_disputeAll cX6_disputeAll 7 (some FieldType.int) 9 3 18 [.ref 0, .int w, .int a] (xC h nc ni np nl (n 1) f g jc jr) xNo (cP h nc ni np nl (o_disputeAll nc ni w a n f g)) (fun u h' => (∃ jc2 jr2, h' = xC h nc ni np nl (n 1) f g jc2 jr2) ∧ (u, (o_disputeAll nc ni w a n f g).2.1 0) ∈ [("java/lang/IndexOutOfBoundsException", (1 : Int32)), ("java/lang/IllegalArgumentException", (2 : Int32)), ("java/lang/IllegalStateException", (3 : Int32))]) := by
  refine xMet_of hflags (by decide +kernel) (fun _ _ h => h) (Nat.le_of_ble_eq_true rfl) ?_
  intro E C I hret hthr
  refine a_loc [(0, .ref 0), (1, .int w), (2, .int a)] (xsub_cons rfl (xsub_cons rfl (xsub_cons rfl (xsub_nil)))) ?_
  obtain ⟨hc6, hi24, hp24, hl16⟩ := id hB
  refine a_aload_n (i := 0) C dX6_disputeAll_0 rfl rfl ?_
  refine a_iload_n (i := 1) C dX6_disputeAll_1 rfl rfl ?_
  refine a_callV C dX6_disputeAll_2 cv_X6_customerAt tb349 (m_X6_customerAt hflags hB) rfl rfl xC_0 rfl (Nat.le_of_ble_eq_true rfl) ⟨Nat.le_of_ble_eq_true rfl, Nat.le_of_ble_eq_true rfl⟩ ⟨Nat.le_of_ble_eq_true rfl, Nat.le_of_ble_eq_true rfl⟩ (fun _ h => h.elim) xav_no (fun _ _ ⟨e1, e2, e3⟩ => by subst e1; subst e2; exact a_out C (fun _ h => nomatch h) (hthr _ _ ⟨⟨jc, jr, rfl⟩, by unfold o_disputeAll; rw [if_pos e3]; exact (List.Mem.head _)⟩) (Nat.le_of_ble_eq_true rfl) (Nat.le_of_ble_eq_true rfl)) (fun r2 hp2 hq2 => ?_)
  obtain ⟨j, hj, rfl, rfl, rfl⟩ := hq2
  refine a_astore_n (i := 3) C dX6_disputeAll_5 rfl (by decide) ?_
  refine a_iload_n (i := 2) C dX6_disputeAll_6 rfl rfl ?_
  refine a_callS C dX6_disputeAll_7 cs_X6_requireCent tb539 (m_X6_requireCent hflags) rfl rfl (Nat.le_of_ble_eq_true rfl) ⟨Nat.le_of_ble_eq_true rfl, Nat.le_of_ble_eq_true rfl⟩ ⟨Nat.le_of_ble_eq_true rfl, Nat.le_of_ble_eq_true rfl⟩ (fun _ h => h.elim) xav_no (fun _ _ ⟨e1, e2, e3⟩ => by subst e1; subst e2; exact a_out C (fun _ h => nomatch h) (hthr _ _ ⟨⟨jc, jr, rfl⟩, by unfold o_disputeAll; rw [if_neg (fun z => z (xin_of hj (by omega))), if_pos e3]; exact (List.Mem.tail _ (List.Mem.head _))⟩) (Nat.le_of_ble_eq_true rfl) (Nat.le_of_ble_eq_true rfl)) (fun r7 hp7 hq7 => ?_)
  obtain ⟨rfl, rfl, hx⟩ := hq7
  refine a_aload_n (i := 0) C dX6_disputeAll_10 rfl rfl ?_
  refine a_aload_n (i := 3) C dX6_disputeAll_11 rfl rfl ?_
  refine a_callV C dX6_disputeAll_12 cv_X6_weighClearAmounts tb576 (m_X6_weighClearAmounts hflags hB hj hO) rfl rfl xC_0 rfl (Nat.le_of_ble_eq_true rfl) ⟨Nat.le_of_ble_eq_true rfl, Nat.le_of_ble_eq_true rfl⟩ ⟨Nat.le_of_ble_eq_true rfl, Nat.le_of_ble_eq_true rfl⟩ (fun _ h => h.elim) xav_no (fun _ _ h => h.elim) (fun r12 hp12 hq12 => ?_)
  obtain ⟨rfl, rfl⟩ := hq12
  refine a_iload_n (i := 2) C dX6_disputeAll_15 rfl rfl ?_
  refine a_i2l C dX6_disputeAll_16 ?_
  refine a_aload_n (i := 0) C dX6_disputeAll_17 rfl rfl ?_
  refine a_get C dX6_disputeAll_18 fl_X6_32 xC_0 rfl ?_
  refine a_callV C dX6_disputeAll_21 cv_X5_sumOfWeights tb669 (m_X5_sumOfWeights hflags hB) rfl rfl xC_10 rfl (Nat.le_of_ble_eq_true rfl) ⟨Nat.le_of_ble_eq_true rfl, Nat.le_of_ble_eq_true rfl⟩ ⟨Nat.le_of_ble_eq_true rfl, Nat.le_of_ble_eq_true rfl⟩ (fun _ h => h.elim) xav_no (fun _ _ h => h.elim) (fun r21 hp21 hq21 => ?_)
  obtain ⟨rfl, rfl⟩ := hq21
  refine a_lcmp C dX6_disputeAll_24 ?_
  refine a_if_gt (tgt := 32) C dX6_disputeAll_25 (by decide) (fun c25 => ?_) (fun c25 => ?_)
  · refine a_iconst (v := 0) C dX6_disputeAll_32 (by decide) ?_
    refine a_callS C dX6_disputeAll_33 cs_X6_requireState tb401 (m_X6_requireState0 hflags) rfl rfl (Nat.le_of_ble_eq_true rfl) ⟨Nat.le_of_ble_eq_true rfl, Nat.le_of_ble_eq_true rfl⟩ ⟨Nat.le_of_ble_eq_true rfl, Nat.le_of_ble_eq_true rfl⟩ (fun _ h => h.elim) xav_no (fun _ _ ⟨e1, e2⟩ => by subst e1; subst e2; exact a_out C (fun _ h => nomatch h) (hthr _ _ ⟨⟨(xWJ f (nI j) jc ni), jr, rfl⟩, by unfold o_disputeAll; rw [if_neg (fun z => z (xin_of hj (by omega))), if_neg hx, if_pos (show xall f (nI j) ni < a.toInt64 by rw [← xwl_all (jc := jc) hi24]; exact lcmp_gt.mp c25)]; exact (List.Mem.tail _ (List.Mem.tail _ (List.Mem.head _)))⟩) (Nat.le_of_ble_eq_true rfl) (Nat.le_of_ble_eq_true rfl)) (fun r33 hp33 hq33 => ?_)
    exact hq33.elim
  · refine a_iconst (v := 1) C dX6_disputeAll_28 (by decide) ?_
    refine a_goto (tgt := 33) C dX6_disputeAll_29 (by decide) ?_
    refine a_callS C dX6_disputeAll_33 cs_X6_requireState tb401 (m_X6_requireState1 hflags) rfl rfl (Nat.le_of_ble_eq_true rfl) ⟨Nat.le_of_ble_eq_true rfl, Nat.le_of_ble_eq_true rfl⟩ ⟨Nat.le_of_ble_eq_true rfl, Nat.le_of_ble_eq_true rfl⟩ (fun _ h => h.elim) xav_no (fun _ _ h => h.elim) (fun r33 hp33 hq33 => ?_)
    obtain ⟨rfl, rfl⟩ := hq33
    have hT : ¬ xall f (nI j) ni < a.toInt64 := by
      rw [← xwl_all (jc := jc) hi24]
      exact fun z => c25 (lcmp_gt.mpr z)
    have ha0 : 0 ≤ a.toInt := by
      have h1 := mt i32_lt.mpr hx
      have h2 : (1 : Int32).toInt = 1 := rfl
      omega
    have haT : a.toInt ≤ zs (zw ni f (nI j)) ni := by
      have h1 := mt i64_lt.mpr hT
      rw [Int32.toInt_toInt64, (xall_z hi24).1] at h1
      omega
    obtain ⟨hZ1, hZ2⟩ := cspl_z (f := f) (jc := jc) (g := g) (jr := jr) (c := nI j) hi24 (hW (nI j)) ha0 haT
    refine a_aload_n (i := 0) C dX6_disputeAll_36 rfl rfl ?_
    refine a_get C dX6_disputeAll_37 fl_X6_32 xC_0 rfl ?_
    refine a_iload_n (i := 2) C dX6_disputeAll_40 rfl rfl ?_
    refine a_callV C dX6_disputeAll_41 cv_X5_splitInProportion tb670 (m_X5_splitInProportion hflags hB) rfl rfl xC_10 rfl (Nat.le_of_ble_eq_true rfl) ⟨Nat.le_of_ble_eq_true rfl, Nat.le_of_ble_eq_true rfl⟩ ⟨Nat.le_of_ble_eq_true rfl, Nat.le_of_ble_eq_true rfl⟩ (fun _ h => h.elim) xav_no (fun _ _ h => h.elim) (fun r41 hp41 hq41 => ?_)
    obtain ⟨rfl, rfl⟩ := hq41
    refine a_iconst (v := 0) C dX6_disputeAll_44 (by decide) ?_
    refine a_istore (i := 4) C dX6_disputeAll_45 (by decide) ?_
    have loop : ∀ (k i : Nat), i ≤ ni → ni < i + k → aW E 2 12 (xC h nc ni np nl (n 1) (fup f 14 (xpre (fun q => f 14 q + (cspl (xWJ f (nI j) jc ni) jr a).1 q) (f 14) i)) g (fup (xWJ f (nI j) jc ni) 4 (cspl (xWJ f (nI j) jc ni) jr a).1) (cspl (xWJ f (nI j) jc ni) jr a).2) 50 [(0, .ref 0), (4, .int (xsum (fun q => if 0 < (cspl (xWJ f (nI j) jc ni) jr a).1 q then (1 : Int32) else 0) i)), (5, .int (nI i))] [] := by
      intro k
      induction k with
      | zero => intro i h1 h2; exact absurd h2 (by omega)
      | succ k ih =>
        intro i h1 h2
        refine a_iload (i := 5) C dX6_disputeAll_50 rfl ?_
        refine a_aload_n (i := 0) C dX6_disputeAll_52 rfl rfl ?_
        refine a_get C dX6_disputeAll_53 fl_X6_16 xC_0 rfl ?_
        refine a_callV C dX6_disputeAll_56 cv_Jx4a65c_size_8abf5 tb142 (m_Jx4a65c_size_8abf5 hflags xC_2) rfl rfl xC_2 rfl (Nat.le_of_ble_eq_true rfl) ⟨Nat.le_of_ble_eq_true rfl, Nat.le_of_ble_eq_true rfl⟩ ⟨Nat.le_of_ble_eq_true rfl, Nat.le_of_ble_eq_true rfl⟩ (fun _ h => h.elim) xav_no (fun _ _ h => h.elim) (fun r56 hp56 hq56 => ?_)
        obtain ⟨rfl, rfl⟩ := hq56
        refine a_icmp_ge (tgt := 109) C dX6_disputeAll_59 (by decide) (fun c59 => ?_) (fun c59 => ?_)
        · have hie : i = ni := by
            have := (xle (by omega) (by omega)).mp c59
            omega
          rw [hie]
          refine a_iload (i := 4) C dX6_disputeAll_109 rfl ?_
          exact a_iret C dX6_disputeAll_111 (Nat.le_of_ble_eq_true rfl) (Nat.le_of_ble_eq_true rfl) (hret _ _ (by unfold cP o_disputeAll; rw [if_neg (fun z => z (xin_of hj (by omega))), if_neg hx, if_neg hT]; exact ⟨rfl, congrArg (fun z => some (Value.int z)) (xsum_c ni (fun q hq => by show (if 0 < (cspl (xWJ f (nI j) jc ni) jr a).1 q then (1 : Int32) else 0) = if 0 < (xspl ni (nI j) a f g).1 q then 1 else 0; rw [(hZ1 q hq).1])), (fup (xWJ f (nI j) jc ni) 4 (cspl (xWJ f (nI j) jc ni) jr a).1), (cspl (xWJ f (nI j) jc ni) jr a).2, by rw [xpre_c (t := fun q => f 14 q + (cspl (xWJ f (nI j) jc ni) jr a).1 q) (t' := xdis (mDF ni (nI j) a f g)) (fun q hq => by show f 14 q + (cspl (xWJ f (nI j) jc ni) jr a).1 q = f 14 q + (xspl ni (nI j) a f g).1 q; rw [(hZ1 q hq).1])]; rfl⟩))
        · have hlt : i < ni := by
            rcases Nat.lt_or_ge i ni with q | q
            · exact q
            · exact absurd ((xle (by omega) (by omega)).mpr q) c59
          refine a_aload_n (i := 0) C dX6_disputeAll_62 rfl rfl ?_
          refine a_get C dX6_disputeAll_63 fl_X6_32 xC_0 rfl ?_
          refine a_iload (i := 5) C dX6_disputeAll_66 rfl ?_
          refine a_callV C dX6_disputeAll_68 cv_X5_partOf tb632 (m_X5_partOf hflags hB (i := i) (by omega)) rfl rfl xC_10 rfl (Nat.le_of_ble_eq_true rfl) ⟨Nat.le_of_ble_eq_true rfl, Nat.le_of_ble_eq_true rfl⟩ ⟨Nat.le_of_ble_eq_true rfl, Nat.le_of_ble_eq_true rfl⟩ (fun _ h => h.elim) xav_no (fun _ _ h => h.elim) (fun r68 hp68 hq68 => ?_)
          obtain ⟨rfl, rfl⟩ := hq68
          refine a_top ((cspl (xWJ f (nI j) jc ni) jr a).1 i) rfl ?_
          refine a_istore (i := 6) C dX6_disputeAll_71 (by decide) ?_
          refine a_iload (i := 6) C dX6_disputeAll_73 rfl ?_
          refine a_if_le (tgt := 103) C dX6_disputeAll_75 (by decide) (fun c75 => ?_) (fun c75 => ?_)
          · have e0 : (cspl (xWJ f (nI j) jc ni) jr a).1 i = 0 := by
              have h1 := (hZ1 i hlt).2.1
              have c75' : (cspl (xWJ f (nI j) jc ni) jr a).1 i ≤ 0 := c75
              have h2 := mt i32_lt.mpr (Int32.not_lt.mpr c75')
              rw [i32_z] at h2
              exact i32_inj (by rw [i32_z]; omega)
            refine a_hp (show _ = xC h nc ni np nl (n 1) (fup f 14 (xpre (fun q => f 14 q + (cspl (xWJ f (nI j) jc ni) jr a).1 q) (f 14) (i + 1))) g (fup (xWJ f (nI j) jc ni) 4 (cspl (xWJ f (nI j) jc ni) jr a).1) (cspl (xWJ f (nI j) jc ni) jr a).2 by rw [← xpre_k (t := fun q => f 14 q + (cspl (xWJ f (nI j) jc ni) jr a).1 q) (show f 14 i + (cspl (xWJ f (nI j) jc ni) jr a).1 i = f 14 i by rw [e0, Int32.add_zero])]) ?_
            refine a_loc [(0, .ref 0), (4, .int (xsum (fun q => if 0 < (cspl (xWJ f (nI j) jc ni) jr a).1 q then (1 : Int32) else 0) (i + 1))), (5, .int (nI i))] (by rw [xsum_0 (show (fun q => if 0 < (cspl (xWJ f (nI j) jc ni) jr a).1 q then (1 : Int32) else 0) i = 0 from if_neg (Int32.not_lt.mpr c75))]; exact xsub_cons rfl (xsub_cons rfl (xsub_cons rfl (xsub_nil)))) ?_
            refine a_iinc (i := 5) (v := nI (i + 1)) C dX6_disputeAll_103 rfl (nI_1 i) (by decide) ?_
            refine a_goto (tgt := 50) C dX6_disputeAll_106 (by decide) ?_
            refine a_loc _ ?_ (ih (i + 1) (by omega) (by omega))
            exact xsub_cons rfl (xsub_cons rfl (xsub_cons rfl (xsub_nil)))
          · refine a_aload_n (i := 0) C dX6_disputeAll_78 rfl rfl ?_
            refine a_get C dX6_disputeAll_79 fl_X6_16 xC_0 rfl ?_
            refine a_iload (i := 5) C dX6_disputeAll_82 rfl ?_
            refine a_callV C dX6_disputeAll_84 cv_Jx4a65c_get_915e3 tb372 (m_Jx4a65c_get_915e3 hflags xC_2 (xC_l2 (by omega)) (by omega) (aCap_ge (by omega)) (Nat.lt_of_le_of_lt (aCap_le _) (by decide)) (xLr_lt (by omega))) rfl rfl xC_2 rfl (Nat.le_of_ble_eq_true rfl) ⟨Nat.le_of_ble_eq_true rfl, Nat.le_of_ble_eq_true rfl⟩ ⟨Nat.le_of_ble_eq_true rfl, Nat.le_of_ble_eq_true rfl⟩ (fun _ h => h.elim) xav_no (fun _ _ h => h.elim) (fun r84 hp84 hq84 => ?_)
            obtain ⟨rfl, rfl⟩ := hq84
            refine a_castS C dX6_disputeAll_87 tb409 (xC_in (by omega) (by omega)) rfl rfl ?_
            refine a_dup C dX6_disputeAll_90 rfl ?_
            refine a_get C dX6_disputeAll_91 fl_X6_205 (xC_in (by omega) (by omega)) (congrArg (fun z => some (Value.int z)) (show (fup f 14 (xpre (fun q => f 14 q + (cspl (xWJ f (nI j) jc ni) jr a).1 q) (f 14) i)) 14 i = f 14 i by rw [fup_s]; exact xpre_ge (Nat.le_refl i))) ?_
            refine a_iload (i := 6) C dX6_disputeAll_94 rfl ?_
            refine a_iadd C dX6_disputeAll_96 ?_
            refine a_put C dX6_disputeAll_97 fl_X6_205 (xC_in (by omega) (by omega)) (Nat.le_of_ble_eq_true rfl) rfl rfl ?_
            refine a_hp ((xCi_14 (by omega) (by omega)).trans (show _ = xC h nc ni np nl (n 1) (fup f 14 (xpre (fun q => f 14 q + (cspl (xWJ f (nI j) jc ni) jr a).1 q) (f 14) (i + 1))) g (fup (xWJ f (nI j) jc ni) 4 (cspl (xWJ f (nI j) jc ni) jr a).1) (cspl (xWJ f (nI j) jc ni) jr a).2 by rw [fup_ff, fup_s, xpre_s (t := fun q => f 14 q + (cspl (xWJ f (nI j) jc ni) jr a).1 q)])) ?_
            refine a_iinc (i := 4) (v := xsum (fun q => if 0 < (cspl (xWJ f (nI j) jc ni) jr a).1 q then (1 : Int32) else 0) i + 1) C dX6_disputeAll_100 rfl (by rfl) (by decide) ?_
            refine a_loc [(0, .ref 0), (4, .int (xsum (fun q => if 0 < (cspl (xWJ f (nI j) jc ni) jr a).1 q then (1 : Int32) else 0) (i + 1))), (5, .int (nI i))] (by rw [xsum_t (show (fun q => if 0 < (cspl (xWJ f (nI j) jc ni) jr a).1 q then (1 : Int32) else 0) i = 1 from if_pos (Int32.not_le.mp c75))]; exact xsub_cons rfl (xsub_cons rfl (xsub_cons rfl (xsub_nil)))) ?_
            refine a_iinc (i := 5) (v := nI (i + 1)) C dX6_disputeAll_103 rfl (nI_1 i) (by decide) ?_
            refine a_goto (tgt := 50) C dX6_disputeAll_106 (by decide) ?_
            refine a_loc _ ?_ (ih (i + 1) (by omega) (by omega))
            exact xsub_cons rfl (xsub_cons rfl (xsub_cons rfl (xsub_nil)))
    refine a_iconst (v := 0) C dX6_disputeAll_47 (by decide) ?_
    refine a_istore (i := 5) C dX6_disputeAll_48 (by decide) ?_
    refine a_hp (show _ = xC h nc ni np nl (n 1) (fup f 14 (xpre (fun q => f 14 q + (cspl (xWJ f (nI j) jc ni) jr a).1 q) (f 14) 0)) g (fup (xWJ f (nI j) jc ni) 4 (cspl (xWJ f (nI j) jc ni) jr a).1) (cspl (xWJ f (nI j) jc ni) jr a).2 by rw [xpre_0, fup_id]) ?_
    refine a_loc _ ?_ (loop (ni + 1) 0 (Nat.zero_le _) (by omega))
    exact xsub_cons rfl (xsub_cons rfl (xsub_cons rfl (xsub_nil)))
