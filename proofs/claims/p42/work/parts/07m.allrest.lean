theorem mRS_le {ni nl w : Nat} {n : Nat → Int32} {f : Nat → Nat → Int32} {g : Nat → Nat → Int64} {i : Nat} : ∀ k, i ≤ k → (mRS ni nl w n f g i).2.1 ≤ (mRS ni nl w n f g k).2.1 := by
  intro k
  induction k with
  | zero => intro h; rw [show i = 0 by omega]; exact Nat.le_refl _
  | succ k ih =>
    intro h
    by_cases hk : i = k + 1
    · rw [hk]; exact Nat.le_refl _
    · refine Nat.le_trans (ih (by omega)) ?_
      by_cases hs : f 19 k = nI w
      · rw [mRS_t hs]; exact mAR_le.1
      · rw [mRS_f hs]; exact Nat.le_refl _
theorem mRS_nn {ni nl w j : Nat} {n : Nat → Int32} {f : Nat → Nat → Int32} {g : Nat → Nat → Int64} (hj : j = 0 ∨ j = 1) : ∀ k, (mRS ni nl w n f g k).2.2.1 j = n j := by
  intro k
  induction k with
  | zero => rfl
  | succ k ih =>
    by_cases hs : f 19 k = nI w
    · rw [mRS_t hs]
      exact (mAR_nn hj).trans ih
    · rw [mRS_f hs]
      exact ih
/-- what allocateRest asks of the book -/
def cRok (ni np nl w : Nat) (n : Nat → Int32) (f : Nat → Nat → Int32) (g : Nat → Nat → Int64) : Prop := ∀ k, k ≤ np → (∀ c j, 0 ≤ zw ni (mRS ni nl w n f g k).2.2.2.1 c j) ∧ (∀ p, p < np → 0 ≤ ((mRS ni nl w n f g k).2.2.2.1 20 p).toInt ∧ (¬ f 21 p = 0 → (mRS ni nl w n f g k).2.2.2.1 20 p = 0)) ∧ (mRS ni nl w n f g k).2.1 + ni < 16000
set_option maxRecDepth 100000 in
set_option maxHeartbeats 4000000 in
theorem m_X6_allocateRest {l : Launch} {N0 : Nat} {D : va_G} {dT : Nat → ClassId} (hflags : l.stackTraces = false) {h : xH} {nc ni np nl : Nat} {n : Nat → Int32} {f : Nat → Nat → Int32} {g : Nat → Nat → Int64} {jc : Nat → Nat → Int32} {jr : Nat → Int64} (hB : nc ≤ 6 ∧ ni ≤ 24 ∧ np ≤ 24 ∧ nl ≤ 16000) {w : Int32} (hok : xin w nc → cRok ni np nl w.toNatClampNeg (nup n 0 0) f g) (hO : ∀ i, i < ni → ∃ k, k < nc ∧ f 10 i = nI k) (hP : ∀ i, i < np → ∃ k, k < nc ∧ f 19 i = nI k) (hbs : xBs h)  : xMet l N0 D dT yX6_allocateRest cX6_allocateRest 6 (some FieldType.int) 9 (1 + lCel nl ((mRS ni nl w.toNatClampNeg (nup n 0 0) f g np).2.1)) (6 + lSlt nl ((mRS ni nl w.toNatClampNeg (nup n 0 0) f g np).2.1)) [.ref 0, .int w] (xC h nc ni np nl (n 1) f g jc jr) xnwD (cP h nc ni np ((mRS ni nl w.toNatClampNeg (nup n 0 0) f g np).2.1) (o_allocateRest nc ni np nl w n f g)) (cX (xC h nc ni np nl (n 1) f g jc jr) [("java/lang/IndexOutOfBoundsException", (1 : Int32))] (o_allocateRest nc ni np nl w n f g)) := by
  refine xMet_of hflags (by decide +kernel) (fun j h1 h2 => by omega) (Nat.le_of_ble_eq_true rfl) ?_
  intro E C I hret hthr
  refine a_loc [(0, .ref 0), (1, .int w)] (xsub_cons rfl (xsub_cons rfl (xsub_nil))) ?_
  obtain ⟨hc6, hi24, hp24, hl16⟩ := id hB
  refine a_aload_n (i := 0) C dX6_allocateRest_0 rfl rfl ?_
  refine a_iload_n (i := 1) C dX6_allocateRest_1 rfl rfl ?_
  refine a_callV C dX6_allocateRest_2 cv_X6_customerAt tb349 (m_X6_customerAt hflags hB) rfl rfl xC_0 rfl (Nat.le_of_ble_eq_true rfl) ⟨Nat.le_of_ble_eq_true rfl, Nat.le_of_ble_eq_true rfl⟩ ⟨(by show _ ≤ 1 + lCel nl (_); omega), (by show _ ≤ 6 + lSlt nl (_); omega)⟩ (fun _ h => h.elim) xav_no (fun _ _ ⟨e1, e2, e3⟩ => by subst e1; subst e2; exact a_out C (fun _ h => nomatch h) (hthr _ _ ⟨rfl, by unfold o_allocateRest; rw [if_pos e3]; exact (List.Mem.head _)⟩) (by show _ ≤ 1 + lCel nl (_); omega) (by show _ ≤ 6 + lSlt nl (_); omega)) (fun r2 hp2 hq2 => ?_)
  obtain ⟨j, hj, rfl, rfl, rfl⟩ := hq2
  have ej : (nI j).toNatClampNeg = j := nI_clamp (by omega)
  rw [ej] at C hret
  have hk := hok (xin_of hj (by omega))
  rw [ej] at hk
  refine a_astore_n (i := 2) C dX6_allocateRest_5 rfl (by decide) ?_
  refine a_iconst (v := 0) C dX6_allocateRest_6 (by decide) ?_
  refine a_istore_n (i := 3) C dX6_allocateRest_7 rfl (by decide) ?_
  have loop : ∀ (k i : Nat) (jc : Nat → Nat → Int32) (jr : Nat → Int64), i ≤ np → np < i + k → aW E (1 + lCel nl (mRS ni nl j (nup n 0 0) f g i).2.1) (6 + lSlt nl (mRS ni nl j (nup n 0 0) f g i).2.1) (xC h nc ni np (mRS ni nl j (nup n 0 0) f g i).2.1 (n 1) (mRS ni nl j (nup n 0 0) f g i).2.2.2.1 (mRS ni nl j (nup n 0 0) f g i).2.2.2.2 jc jr) 11 [(0, .ref 0), (2, .ref (16 + j)), (3, .int (mRS ni nl j (nup n 0 0) f g i).1), (4, .int (nI i))] [] := by
    intro k
    induction k with
    | zero => intro i jc jr h1 h2; exact absurd h2 (by omega)
    | succ k ih =>
      intro i jc jr h1 h2
      have s5 : lCel nl (mRS ni nl j (nup n 0 0) f g i).2.1 ≤ lCel nl (mRS ni nl j (nup n 0 0) f g np).2.1 := lCel_le (mRS_le np h1) (by have := (hk np (Nat.le_refl _)).2.2; omega)
      have s6 : lSlt nl (mRS ni nl j (nup n 0 0) f g i).2.1 ≤ lSlt nl (mRS ni nl j (nup n 0 0) f g np).2.1 := lSlt_le (mRS_le np h1) (by have := (hk np (Nat.le_refl _)).2.2; omega)
      have hii := hk i h1
      refine a_iload (i := 4) C dX6_allocateRest_11 rfl ?_
      refine a_aload_n (i := 0) C dX6_allocateRest_13 rfl rfl ?_
      refine a_get C dX6_allocateRest_14 fl_X6_19 xC_0 rfl ?_
      refine a_callV C dX6_allocateRest_17 cv_Jx4a65c_size_8abf5 tb142 (m_Jx4a65c_size_8abf5 hflags xC_3) rfl rfl xC_3 rfl (Nat.le_of_ble_eq_true rfl) ⟨Nat.le_of_ble_eq_true rfl, Nat.le_of_ble_eq_true rfl⟩ ⟨(by show _ ≤ 1 + lCel nl (mRS ni nl j (nup n 0 0) f g np).2.1; omega), (by show _ ≤ 6 + lSlt nl (mRS ni nl j (nup n 0 0) f g np).2.1; omega)⟩ (fun _ h => h.elim) xav_no (fun _ _ h => h.elim) (fun r17 hp17 hq17 => ?_)
      obtain ⟨rfl, rfl⟩ := hq17
      refine a_icmp_ge (tgt := 61) C dX6_allocateRest_20 (by decide) (fun c20 => ?_) (fun c20 => ?_)
      · have hie : i = np := by
          have := (xle (by omega) (by omega)).mp c20
          omega
        rw [hie]
        refine a_iload_n (i := 3) C dX6_allocateRest_61 rfl rfl ?_
        exact a_iret C dX6_allocateRest_62 (by show _ ≤ 1 + lCel nl (mRS ni nl j (nup n 0 0) f g np).2.1; omega) (by show _ ≤ 6 + lSlt nl (mRS ni nl j (nup n 0 0) f g np).2.1; omega) (hret _ _ (by unfold cP o_allocateRest; rw [if_neg (fun z => z (xin_of hj (by omega))), ej]; exact ⟨mRS_nn (Or.inl rfl) np, rfl, _, _, congrArg (fun z => xC h nc ni np (mRS ni nl j (nup n 0 0) f g np).2.1 z (mRS ni nl j (nup n 0 0) f g np).2.2.2.1 (mRS ni nl j (nup n 0 0) f g np).2.2.2.2 jc jr) (mRS_nn (n := nup n 0 0) (Or.inr rfl) np).symm⟩))
      · have hlt : i < np := by
          rcases Nat.lt_or_ge i np with q | q
          · exact q
          · exact absurd ((xle (by omega) (by omega)).mpr q) c20
        refine a_aload_n (i := 0) C dX6_allocateRest_23 rfl rfl ?_
        refine a_get C dX6_allocateRest_24 fl_X6_19 xC_0 rfl ?_
        refine a_iload (i := 4) C dX6_allocateRest_27 rfl ?_
        refine a_callV C dX6_allocateRest_29 cv_Jx4a65c_get_915e3 tb372 (m_Jx4a65c_get_915e3 hflags xC_3 (xC_l3 (by omega)) (by omega) (aCap_ge (by omega)) (Nat.lt_of_le_of_lt (aCap_le _) (by decide)) (xLr_lt (by omega))) rfl rfl xC_3 rfl (Nat.le_of_ble_eq_true rfl) ⟨Nat.le_of_ble_eq_true rfl, Nat.le_of_ble_eq_true rfl⟩ ⟨(by show _ ≤ 1 + lCel nl (mRS ni nl j (nup n 0 0) f g np).2.1; omega), (by show _ ≤ 6 + lSlt nl (mRS ni nl j (nup n 0 0) f g np).2.1; omega)⟩ (fun _ h => h.elim) xav_no (fun _ _ h => h.elim) (fun r29 hp29 hq29 => ?_)
        obtain ⟨rfl, rfl⟩ := hq29
        refine a_castS C dX6_allocateRest_32 tb534 (xC_pa (by omega) (by omega)) rfl rfl ?_
        refine a_astore (i := 5) C dX6_allocateRest_35 (by decide) ?_
        refine a_aload (i := 5) C dX6_allocateRest_37 rfl ?_
        refine a_get C dX6_allocateRest_39 fl_X6_131 (xC_pa (by omega) (by omega)) rfl ?_
        refine a_aload_n (i := 2) C dX6_allocateRest_42 rfl rfl ?_
        refine a_acmp_ne (tgt := 55) C dX6_allocateRest_43 (by decide) (xC_cu (by unfold xpow; rw [mRS_o (by decide) (by decide)]; exact pow_lt hP hc6 i hlt) hc6) (xC_cu hj hc6) (fun c43 => ?_) (fun c43 => ?_)
        · have hs := mRS_f (ni := ni) (nl := nl) (n := nup n 0 0) (g := g) (fun z : f 19 i = nI j => c43 (by unfold xpow; rw [mRS_o (by decide) (by decide)]; exact (pow_iff hP hc6 hlt hj).mpr z))
          refine a_hp (show _ = xC h nc ni np (mRS ni nl j (nup n 0 0) f g (i + 1)).2.1 (n 1) (mRS ni nl j (nup n 0 0) f g (i + 1)).2.2.2.1 (mRS ni nl j (nup n 0 0) f g (i + 1)).2.2.2.2 _ _ by rw [hs]) ?_
          refine aW_bud (k' := 1 + lCel nl (mRS ni nl j (nup n 0 0) f g (i + 1)).2.1) (n' := 6 + lSlt nl (mRS ni nl j (nup n 0 0) f g (i + 1)).2.1) (by rw [hs]; rfl) (by rw [hs]; rfl) ?_
          refine a_loc [(0, .ref 0), (2, .ref (16 + j)), (3, .int (mRS ni nl j (nup n 0 0) f g (i + 1)).1), (4, .int (nI i))] (by rw [hs, Int32.add_zero]; exact xsub_cons rfl (xsub_cons rfl (xsub_cons rfl (xsub_cons rfl (xsub_nil))))) ?_
          refine a_iinc (i := 4) (v := nI (i + 1)) C dX6_allocateRest_55 rfl (nI_1 i) (by decide) ?_
          refine a_goto (tgt := 11) C dX6_allocateRest_58 (by decide) ?_
          refine a_loc _ ?_ (ih (i + 1) _ _ (by omega) (by omega))
          exact xsub_cons rfl (xsub_cons rfl (xsub_cons rfl (xsub_cons rfl (xsub_nil))))
        · have e19 : f 19 i = nI j := (pow_iff hP hc6 hlt hj).mp (by rw [← c43]; unfold xpow; rw [mRS_o (by decide) (by decide)])
          have hs := mRS_t (ni := ni) (nl := nl) (n := nup n 0 0) (g := g) e19
          have hge : nl ≤ (mRS ni nl j (nup n 0 0) f g i).2.1 := mRS_le (i := 0) i (Nat.zero_le i)
          have hmo : (mRS ni nl j (nup n 0 0) f g (i + 1)).2.1 ≤ (mRS ni nl j (nup n 0 0) f g np).2.1 := mRS_le np hlt
          have hne := (hk np (Nat.le_refl _)).2.2
          have hms : (mRS ni nl j (nup n 0 0) f g (i + 1)).2.1 = (mAR ni (mRS ni nl j (nup n 0 0) f g i).2.1 i j (mRS ni nl j (nup n 0 0) f g i).2.2.1 (mRS ni nl j (nup n 0 0) f g i).2.2.2.1 (mRS ni nl j (nup n 0 0) f g i).2.2.2.2).2.1 := by rw [hs]
          have hma := mAR_le (ni := ni) (nl := (mRS ni nl j (nup n 0 0) f g i).2.1) (p := i) (w := j) (n := (mRS ni nl j (nup n 0 0) f g i).2.2.1) (f := (mRS ni nl j (nup n 0 0) f g i).2.2.2.1) (g := (mRS ni nl j (nup n 0 0) f g i).2.2.2.2)
          have s1 : lCel nl (mRS ni nl j (nup n 0 0) f g i).2.1 + lCel (mRS ni nl j (nup n 0 0) f g i).2.1 (mAR ni (mRS ni nl j (nup n 0 0) f g i).2.1 i j (mRS ni nl j (nup n 0 0) f g i).2.2.1 (mRS ni nl j (nup n 0 0) f g i).2.2.2.1 (mRS ni nl j (nup n 0 0) f g i).2.2.2.2).2.1 = lCel nl (mRS ni nl j (nup n 0 0) f g (i + 1)).2.1 := by rw [hms]; exact lCel_add hge hma.1 (by omega)
          have s2 : lCel nl (mRS ni nl j (nup n 0 0) f g (i + 1)).2.1 ≤ lCel nl (mRS ni nl j (nup n 0 0) f g np).2.1 := lCel_le hmo (by omega)
          have s3 : lSlt nl (mRS ni nl j (nup n 0 0) f g i).2.1 + lSlt (mRS ni nl j (nup n 0 0) f g i).2.1 (mAR ni (mRS ni nl j (nup n 0 0) f g i).2.1 i j (mRS ni nl j (nup n 0 0) f g i).2.2.1 (mRS ni nl j (nup n 0 0) f g i).2.2.2.1 (mRS ni nl j (nup n 0 0) f g i).2.2.2.2).2.1 = lSlt nl (mRS ni nl j (nup n 0 0) f g (i + 1)).2.1 := by rw [hms]; exact lSlt_add hge hma.1 (by omega)
          have s4 : lSlt nl (mRS ni nl j (nup n 0 0) f g (i + 1)).2.1 ≤ lSlt nl (mRS ni nl j (nup n 0 0) f g np).2.1 := lSlt_le hmo (by omega)
          refine a_iload_n (i := 3) C dX6_allocateRest_46 rfl rfl ?_
          refine a_aload_n (i := 0) C dX6_allocateRest_47 rfl rfl ?_
          refine a_aload (i := 5) C dX6_allocateRest_48 rfl ?_
          refine a_loc [(0, .ref 0), (2, .ref (16 + j)), (3, .int (mRS ni nl j (nup n 0 0) f g i).1), (4, .int (nI i)), (5, .ref (64 + i))] (xsub_cons rfl (xsub_cons rfl (xsub_cons rfl (xsub_cons rfl (xsub_cons rfl (xsub_nil)))))) ?_
          refine a_callV C dX6_allocateRest_50 cv_X6_allocateByRule tb572 (m_X6_allocAR hflags (nl := (mRS ni nl j (nup n 0 0) f g i).2.1) (f := (mRS ni nl j (nup n 0 0) f g i).2.2.2.1) (g := (mRS ni nl j (nup n 0 0) f g i).2.2.2.2) (show nc ≤ 6 ∧ ni ≤ 24 ∧ np ≤ 24 ∧ (mRS ni nl j (nup n 0 0) f g i).2.1 ≤ 16000 from ⟨hc6, hi24, hp24, by omega⟩) (p := i) (w := j) (mRS ni nl j (nup n 0 0) f g i).2.2.1 hlt ((congrFun (mRS_o (by decide) (by decide) i) i).trans e19) hj (fun q hq => by rw [mRS_o (by decide) (by decide)]; exact hO q hq) (fun q hq => by rw [mRS_o (by decide) (by decide)]; exact hP q hq) (fun z => (hii.2.1 i hlt).2 (fun y => z ((congrFun (mRS_o (by decide) (by decide) i) i).trans y))) hii.1 (hii.2.1 i hlt).1 hii.2.2 hbs) rfl rfl xC_0 rfl (Nat.le_of_ble_eq_true rfl) ⟨Nat.le_of_ble_eq_true rfl, Nat.le_of_ble_eq_true rfl⟩ ⟨(by show _ ≤ 1 + lCel nl (mRS ni nl j (nup n 0 0) f g np).2.1; omega), (by show _ ≤ 6 + lSlt nl (mRS ni nl j (nup n 0 0) f g np).2.1; omega)⟩ (fun _ h => h) ⟨fun q hq j9 hj9 => (by simp only [List.mem_cons, List.not_mem_nil, or_false] at hq; rcases hq with rfl | rfl | rfl | rfl | rfl <;> first | exact Value.noConfusion hj9 | exact xnwD_no (by omega) (Value.ref.inj hj9)), fun v hv j9 hj9 => (by simp only [Option.toList, List.append_eq, List.nil_append, List.append_nil, List.mem_cons, List.not_mem_nil, or_false] at hv; subst hv; exact Value.noConfusion hj9)⟩ (fun _ _ h => h.elim) (fun r50 hp50 hq50 => ?_)
          obtain ⟨rfl, rfl⟩ := hq50
          refine a_iadd C dX6_allocateRest_53 ?_
          refine a_istore_n (i := 3) C dX6_allocateRest_54 rfl (by decide) ?_
          refine a_hp (show _ = xC h nc ni np (mRS ni nl j (nup n 0 0) f g (i + 1)).2.1 (n 1) (mRS ni nl j (nup n 0 0) f g (i + 1)).2.2.2.1 (mRS ni nl j (nup n 0 0) f g (i + 1)).2.2.2.2 _ _ by rw [hs]) ?_
          refine aW_bud (k' := 1 + lCel nl (mRS ni nl j (nup n 0 0) f g (i + 1)).2.1) (n' := 6 + lSlt nl (mRS ni nl j (nup n 0 0) f g (i + 1)).2.1) (by show _ = 1 + lCel nl (mRS ni nl j (nup n 0 0) f g (i + 1)).2.1; omega) (by show _ = 6 + lSlt nl (mRS ni nl j (nup n 0 0) f g (i + 1)).2.1; omega) ?_
          refine a_loc [(0, .ref 0), (2, .ref (16 + j)), (3, .int (mRS ni nl j (nup n 0 0) f g (i + 1)).1), (4, .int (nI i))] (by rw [hs]; exact xsub_cons rfl (xsub_cons rfl (xsub_cons rfl (xsub_cons rfl (xsub_nil))))) ?_
          refine a_iinc (i := 4) (v := nI (i + 1)) C dX6_allocateRest_55 rfl (nI_1 i) (by decide) ?_
          refine a_goto (tgt := 11) C dX6_allocateRest_58 (by decide) ?_
          refine a_loc _ ?_ (ih (i + 1) _ _ (by omega) (by omega))
          exact xsub_cons rfl (xsub_cons rfl (xsub_cons rfl (xsub_cons rfl (xsub_nil))))
  refine a_iconst (v := 0) C dX6_allocateRest_8 (by decide) ?_
  refine a_istore (i := 4) C dX6_allocateRest_9 (by decide) ?_
  refine aW_bud (k' := 1 + lCel nl nl) (n' := 6 + lSlt nl nl) (by rw [lCel_0]) (by rw [lSlt_0]) ?_
  refine a_loc _ ?_ (loop (np + 1) 0 jc jr (Nat.zero_le _) (by omega))
  exact xsub_cons rfl (xsub_cons rfl (xsub_cons rfl (xsub_cons rfl (xsub_nil))))
