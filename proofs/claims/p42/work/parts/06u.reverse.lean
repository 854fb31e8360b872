theorem mBf_o {nl p i : Nat} {f : Nat → Nat → Int32} {j : Nat} (h : j ≠ 23 ∧ j ≠ 24 ∧ j ≠ 22 ∧ j ≠ 20 ∧ j ≠ 13) : mBf nl p i f j = f j := by
  obtain ⟨h1, h2, h3, h4, h5⟩ := h
  unfold mBf
  rw [mWf_o h1 h2, fup_n h5, fup_n h4, fup_n h3]
theorem mVS_o {p nl : Nat} {n : Nat → Int32} {f : Nat → Nat → Int32} {j : Nat} (h : j ≠ 23 ∧ j ≠ 24 ∧ j ≠ 22 ∧ j ≠ 20 ∧ j ≠ 13) : ∀ k, (mVS p nl n f k).2.2.2 j = f j := by
  intro k
  induction k with
  | zero => rfl
  | succ k ih =>
    show mBf _ _ _ _ j = f j
    rw [mBf_o h, ih]
theorem mVS_22 {p nl : Nat} {n : Nat → Int32} {f : Nat → Nat → Int32} {i : Nat} : ∀ k, k ≤ i → (mVS p nl n f k).2.2.2 22 (24 * p + i) = f 22 (24 * p + i) := by
  intro k
  induction k with
  | zero => intro _; rfl
  | succ k ih =>
    intro h
    show mBf (mVS p nl n f k).2.1 p k (mVS p nl n f k).2.2.2 22 (24 * p + i) = _
    unfold mBf
    rw [mWf_o (by decide) (by decide)]
    show upd ((mVS p nl n f k).2.2.2 22) (24 * p + k) 0 (24 * p + i) = _
    rw [xud (by omega), ih (by omega)]
theorem mVS_mono {p nl : Nat} {n : Nat → Int32} {f : Nat → Nat → Int32} {i : Nat} : ∀ k, i ≤ k → (mVS p nl n f i).2.1 ≤ (mVS p nl n f k).2.1 := by
  intro k
  induction k with
  | zero =>
    intro h
    rw [show i = 0 by omega]
    exact Nat.le_refl _
  | succ k ih =>
    intro h
    by_cases hk : i = k + 1
    · subst hk; exact Nat.le_refl _
    · exact Nat.le_trans (ih (by omega)) mWl_ge
theorem mVS_n1 {p nl : Nat} {n : Nat → Int32} {f : Nat → Nat → Int32} : ∀ k, (mVS p nl (nup n 0 0) f k).2.2.1 1 = n 1 := by
  intro k
  induction k with
  | zero => rfl
  | succ k ih => exact mWn_1.trans ih
theorem mVS_n0 {p nl : Nat} {n : Nat → Int32} {f : Nat → Nat → Int32} : ∀ k, (mVS p nl (nup n 0 0) f k).2.2.1 0 = 0 := by
  intro k
  induction k with
  | zero => rfl
  | succ k ih => exact mWn_0.trans ih
set_option maxRecDepth 100000 in
set_option maxHeartbeats 4000000 in
theorem m_X6_reverse {l : Launch} {N0 : Nat} {D : va_G} {dT : Nat → ClassId} (hflags : l.stackTraces = false) {h : xH} {nc ni np nl : Nat} {n : Nat → Int32} {f : Nat → Nat → Int32} {g : Nat → Nat → Int64} {jc : Nat → Nat → Int32} {jr : Nat → Int64} (hB : nc ≤ 6 ∧ ni ≤ 24 ∧ np ≤ 24 ∧ nl ≤ 16000) {w : Int32} (h22 : ∀ p i, p < np → i < ni → 0 ≤ f 22 (24 * p + i)) (hO : ∀ i, i < ni → xow f i < nc) (hP : ∀ i, i < np → xpow f i < nc) (hl : xin w np → ∀ k, k ≤ ni → (mVS w.toNatClampNeg nl (nup n 0 0) f k).2.1 < 16000) (hbs : xBs h)  : xMet l N0 D dT yX6_reverse cX6_reverse 5 (some FieldType.int) 9 (2 + lCel nl ((mVS w.toNatClampNeg nl (nup n 0 0) f ni).2.1)) (12 + lSlt nl ((mVS w.toNatClampNeg nl (nup n 0 0) f ni).2.1)) [.ref 0, .int w] (xC h nc ni np nl (n 1) f g jc jr) xnwD (cP h nc ni np ((mVS w.toNatClampNeg nl (nup n 0 0) f ni).2.1) (o_reverse ni np nl w n f g)) (cX (xC h nc ni np nl (n 1) f g jc jr) [("java/lang/IndexOutOfBoundsException", (1 : Int32)), ("java/lang/IllegalStateException", (2 : Int32))] (o_reverse ni np nl w n f g)) := by
  refine xMet_of hflags (by decide +kernel) (fun j h1 h2 => by omega) (Nat.le_of_ble_eq_true rfl) ?_
  intro E C I hret hthr
  refine a_loc [(0, .ref 0), (1, .int w)] (xsub_cons rfl (xsub_cons rfl (xsub_nil))) ?_
  obtain ⟨hc6, hi24, hp24, hl16⟩ := id hB
  refine a_aload_n (i := 0) C dX6_reverse_0 rfl rfl ?_
  refine a_iload_n (i := 1) C dX6_reverse_1 rfl rfl ?_
  refine a_callV C dX6_reverse_2 cv_X6_paymentAt tb530 (m_X6_paymentAt hflags hB) rfl rfl xC_0 rfl (Nat.le_of_ble_eq_true rfl) ⟨Nat.le_of_ble_eq_true rfl, Nat.le_of_ble_eq_true rfl⟩ ⟨(by show _ ≤ 2 + lCel nl _; omega), (by show _ ≤ 12 + lSlt nl _; omega)⟩ (fun _ h => h.elim) xav_no (fun _ _ ⟨e1, e2, e3⟩ => by subst e1; subst e2; exact a_out C (fun _ h => nomatch h) (hthr _ _ ⟨rfl, by unfold o_reverse; rw [if_pos e3]; exact (List.Mem.head _)⟩) (by show _ ≤ 2 + lCel nl _; omega) (by show _ ≤ 12 + lSlt nl _; omega)) (fun r2 hp2 hq2 => ?_)
  obtain ⟨j, hj, rfl, rfl, rfl⟩ := hq2
  have ej : (nI j).toNatClampNeg = j := nI_clamp (by omega)
  rw [ej] at C hret
  have hl2 := hl (xin_of hj (by omega))
  rw [ej] at hl2
  refine a_astore_n (i := 2) C dX6_reverse_5 rfl (by decide) ?_
  refine a_aload_n (i := 2) C dX6_reverse_6 rfl rfl ?_
  refine a_get C dX6_reverse_7 fl_X6_146 (xC_pa (by omega) (by omega)) rfl ?_
  refine a_if_ne (tgt := 17) C dX6_reverse_10 (by decide) (fun c10 => ?_) (fun c10 => ?_)
  · refine a_iconst (v := 0) C dX6_reverse_17 (by decide) ?_
    refine a_callS C dX6_reverse_18 cs_X6_requireState tb401 (m_X6_requireState0 hflags) rfl rfl (Nat.le_of_ble_eq_true rfl) ⟨Nat.le_of_ble_eq_true rfl, Nat.le_of_ble_eq_true rfl⟩ ⟨(by show _ ≤ 2 + lCel nl _; omega), (by show _ ≤ 12 + lSlt nl _; omega)⟩ (fun _ h => h.elim) xav_no (fun _ _ ⟨e1, e2⟩ => by subst e1; subst e2; exact a_out C (fun _ h => nomatch h) (hthr _ _ ⟨rfl, by unfold o_reverse; rw [if_neg (fun z => z (xin_of hj (by omega))), ej, if_pos c10]; exact (List.Mem.tail _ (List.Mem.head _))⟩) (by show _ ≤ 2 + lCel nl _; omega) (by show _ ≤ 12 + lSlt nl _; omega)) (fun r18 hp18 hq18 => ?_)
    exact hq18.elim
  · have c0 : f 21 j = 0 := by
      first
      | exact c10
      | exact Classical.not_not.mp c10
    refine a_iconst (v := 1) C dX6_reverse_13 (by decide) ?_
    refine a_goto (tgt := 18) C dX6_reverse_14 (by decide) ?_
    refine a_callS C dX6_reverse_18 cs_X6_requireState tb401 (m_X6_requireState1 hflags) rfl rfl (Nat.le_of_ble_eq_true rfl) ⟨Nat.le_of_ble_eq_true rfl, Nat.le_of_ble_eq_true rfl⟩ ⟨(by show _ ≤ 2 + lCel nl _; omega), (by show _ ≤ 12 + lSlt nl _; omega)⟩ (fun _ h => h.elim) xav_no (fun _ _ h => h.elim) (fun r18 hp18 hq18 => ?_)
    obtain ⟨rfl, rfl⟩ := hq18
    have loop : ∀ (k i : Nat), i ≤ ni → ni < i + k → aW E (1 + lCel nl (mVS j nl (nup n 0 0) f i).2.1) (6 + lSlt nl (mVS j nl (nup n 0 0) f i).2.1) (xC h nc ni np (mVS j nl (nup n 0 0) f i).2.1 (n 1) (mVS j nl (nup n 0 0) f i).2.2.2 g jc jr) 26 [(0, .ref 0), (2, .ref (64 + j)), (3, .int (mVS j nl (nup n 0 0) f i).1), (4, .int (nI i))] [] := by
      intro k
      induction k with
      | zero => intro i h1 h2; exact absurd h2 (by omega)
      | succ k ih =>
        intro i h1 h2
        have s5 : lCel nl (mVS j nl (nup n 0 0) f i).2.1 ≤ lCel nl (mVS j nl (nup n 0 0) f ni).2.1 := lCel_le (mVS_mono ni h1) (by have := hl2 ni (Nat.le_refl _); omega)
        have s6 : lSlt nl (mVS j nl (nup n 0 0) f i).2.1 ≤ lSlt nl (mVS j nl (nup n 0 0) f ni).2.1 := lSlt_le (mVS_mono ni h1) (by have := hl2 ni (Nat.le_refl _); omega)
        refine a_iload (i := 4) C dX6_reverse_26 rfl ?_
        refine a_aload_n (i := 0) C dX6_reverse_28 rfl rfl ?_
        refine a_get C dX6_reverse_29 fl_X6_16 xC_0 rfl ?_
        refine a_callV C dX6_reverse_32 cv_Jx4a65c_size_8abf5 tb142 (m_Jx4a65c_size_8abf5 hflags xC_2) rfl rfl xC_2 rfl (Nat.le_of_ble_eq_true rfl) ⟨Nat.le_of_ble_eq_true rfl, Nat.le_of_ble_eq_true rfl⟩ ⟨(by show _ ≤ 2 + lCel nl (mVS j nl (nup n 0 0) f ni).2.1; omega), (by show _ ≤ 12 + lSlt nl (mVS j nl (nup n 0 0) f ni).2.1; omega)⟩ (fun _ h => h.elim) xav_no (fun _ _ h => h.elim) (fun r32 hp32 hq32 => ?_)
        obtain ⟨rfl, rfl⟩ := hq32
        refine a_icmp_ge (tgt := 54) C dX6_reverse_35 (by decide) (fun c35 => ?_) (fun c35 => ?_)
        · have hie : i = ni := by
            have := (xle (by omega) (by omega)).mp c35
            omega
          rw [hie]
          refine a_aload_n (i := 2) C dX6_reverse_54 rfl rfl ?_
          refine a_iconst (v := 1) C dX6_reverse_55 (by decide) ?_
          refine a_put C dX6_reverse_56 fl_X6_146 (xC_pa (by omega) (by omega)) (Nat.le_of_ble_eq_true rfl) rfl rfl ?_
          refine a_hp (xCp_1 (by omega) (by omega)) ?_
          refine a_iload_n (i := 3) C dX6_reverse_59 rfl rfl ?_
          exact a_iret C dX6_reverse_60 (by show _ ≤ 2 + lCel nl (mVS j nl (nup n 0 0) f ni).2.1; omega) (by show _ ≤ 12 + lSlt nl (mVS j nl (nup n 0 0) f ni).2.1; omega) (hret _ _ (by unfold cP o_reverse; rw [if_neg (fun z => z (xin_of hj (by omega))), ej, if_neg (fun z => z c0)]; exact ⟨mVS_n0 ni, rfl, _, _, by rw [show (mVS j nl (nup n 0 0) f ni).2.2.1 1 = n 1 from mVS_n1 ni]⟩))
        · have hlt : i < ni := by
            rcases Nat.lt_or_ge i ni with q | q
            · exact q
            · exact absurd ((xle (by omega) (by omega)).mpr q) c35
          have hni := hl2 i h1
          have hn2 : mWl (mVS j nl (nup n 0 0) f i).2.1 ((mVS j nl (nup n 0 0) f i).2.2.2 22 (24 * j + i)) < 16000 := hl2 (i + 1) hlt
          have hge : nl ≤ (mVS j nl (nup n 0 0) f i).2.1 := mVS_mono (i := 0) i (Nat.zero_le _)
          have hmo : mWl (mVS j nl (nup n 0 0) f i).2.1 ((mVS j nl (nup n 0 0) f i).2.2.2 22 (24 * j + i)) ≤ (mVS j nl (nup n 0 0) f ni).2.1 := mVS_mono (i := i + 1) ni hlt
          have hne := hl2 ni (Nat.le_refl _)
          have s1 : lCel nl (mVS j nl (nup n 0 0) f i).2.1 + lCel (mVS j nl (nup n 0 0) f i).2.1 (mWl (mVS j nl (nup n 0 0) f i).2.1 ((mVS j nl (nup n 0 0) f i).2.2.2 22 (24 * j + i))) = lCel nl (mWl (mVS j nl (nup n 0 0) f i).2.1 ((mVS j nl (nup n 0 0) f i).2.2.2 22 (24 * j + i))) := lCel_add hge mWl_ge (by omega)
          have s2 : lCel nl (mWl (mVS j nl (nup n 0 0) f i).2.1 ((mVS j nl (nup n 0 0) f i).2.2.2 22 (24 * j + i))) ≤ lCel nl (mVS j nl (nup n 0 0) f ni).2.1 := lCel_le hmo (by omega)
          have s3 : lSlt nl (mVS j nl (nup n 0 0) f i).2.1 + lSlt (mVS j nl (nup n 0 0) f i).2.1 (mWl (mVS j nl (nup n 0 0) f i).2.1 ((mVS j nl (nup n 0 0) f i).2.2.2 22 (24 * j + i))) = lSlt nl (mWl (mVS j nl (nup n 0 0) f i).2.1 ((mVS j nl (nup n 0 0) f i).2.2.2 22 (24 * j + i))) := lSlt_add hge mWl_ge (by omega)
          have s4 : lSlt nl (mWl (mVS j nl (nup n 0 0) f i).2.1 ((mVS j nl (nup n 0 0) f i).2.2.2 22 (24 * j + i))) ≤ lSlt nl (mVS j nl (nup n 0 0) f ni).2.1 := lSlt_le hmo (by omega)
          refine a_iload_n (i := 3) C dX6_reverse_38 rfl rfl ?_
          refine a_loc [(0, .ref 0), (2, .ref (64 + j)), (3, .int (mVS j nl (nup n 0 0) f i).1), (4, .int (nI i))] (xsub_cons rfl (xsub_cons rfl (xsub_cons rfl (xsub_cons rfl (xsub_nil))))) ?_
          refine a_aload_n (i := 0) C dX6_reverse_39 rfl rfl ?_
          refine a_aload_n (i := 2) C dX6_reverse_40 rfl rfl ?_
          refine a_iload (i := 4) C dX6_reverse_41 rfl ?_
          refine a_callV C dX6_reverse_43 cv_X6_takeBack tb643 (m_X6_takeBack hflags (show nc ≤ 6 ∧ ni ≤ 24 ∧ np ≤ 24 ∧ (mVS j nl (nup n 0 0) f i).2.1 ≤ 16000 from ⟨hc6, hi24, hp24, by omega⟩) hj hlt (by rw [mVS_22 i (Nat.le_refl _)]; exact h22 j i hj hlt) (fun _ => (congrFun (mVS_o (by decide) i) j).trans c0) hni hbs (fun q hq => by unfold xow; rw [mVS_o (by decide)]; exact hO q hq) (fun q hq => by unfold xpow; rw [mVS_o (by decide)]; exact hP q hq)) rfl rfl xC_0 rfl (Nat.le_of_ble_eq_true rfl) ⟨Nat.le_of_ble_eq_true rfl, Nat.le_of_ble_eq_true rfl⟩ ⟨(by show _ ≤ 2 + lCel nl (mVS j nl (nup n 0 0) f ni).2.1; omega), (by show _ ≤ 12 + lSlt nl (mVS j nl (nup n 0 0) f ni).2.1; omega)⟩ (fun _ h => h) ⟨fun q hq j9 hj9 => (by simp only [List.mem_cons, List.not_mem_nil, or_false] at hq; rcases hq with rfl | rfl | rfl | rfl <;> first | exact Value.noConfusion hj9 | exact xnwD_no (by omega) (Value.ref.inj hj9)), fun v hv j9 hj9 => (by simp only [List.mem_cons, List.not_mem_nil, or_false] at hv; subst hv; exact Value.noConfusion hj9)⟩ (fun _ _ h => h.elim) (fun r43 hp43 hq43 => ?_)
          obtain ⟨rfl, rfl⟩ := hq43
          refine a_iadd C dX6_reverse_46 ?_
          refine a_istore_n (i := 3) C dX6_reverse_47 rfl (by decide) ?_
          refine a_iinc (i := 4) (v := nI (i + 1)) C dX6_reverse_48 rfl (nI_1 i) (by decide) ?_
          refine a_goto (tgt := 26) C dX6_reverse_51 (by decide) ?_
          refine aW_bud (k' := 1 + lCel nl (mVS j nl (nup n 0 0) f (i + 1)).2.1) (n' := 6 + lSlt nl (mVS j nl (nup n 0 0) f (i + 1)).2.1) (by show _ = 1 + lCel nl (mWl (mVS j nl (nup n 0 0) f i).2.1 ((mVS j nl (nup n 0 0) f i).2.2.2 22 (24 * j + i))); omega) (by show _ = 6 + lSlt nl (mWl (mVS j nl (nup n 0 0) f i).2.1 ((mVS j nl (nup n 0 0) f i).2.2.2 22 (24 * j + i))); omega) ?_
          refine a_loc _ ?_ (ih (i + 1) (by omega) (by omega))
          exact xsub_cons rfl (xsub_cons rfl (xsub_cons rfl (xsub_cons rfl (xsub_nil))))
    refine a_iconst (v := 0) C dX6_reverse_21 (by decide) ?_
    refine a_istore_n (i := 3) C dX6_reverse_22 rfl (by decide) ?_
    refine a_iconst (v := 0) C dX6_reverse_23 (by decide) ?_
    refine a_istore (i := 4) C dX6_reverse_24 (by decide) ?_
    refine aW_bud (k' := 1 + lCel nl nl) (n' := 6 + lSlt nl nl) (by rw [lCel_0]) (by rw [lSlt_0]) ?_
    refine a_loc _ ?_ (loop (ni + 1) 0 (Nat.zero_le _) (by omega))
    exact xsub_cons rfl (xsub_cons rfl (xsub_cons rfl (xsub_cons rfl (xsub_nil))))
