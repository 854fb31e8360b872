/-! the law's sums: addsUp -/
def xLa (h : xH) (O G P M : Nat → Int32) : Prop := h 230 = some (.inl (0, 24, .inl O)) ∧ h 231 = some (.inl (0, 24, .inl G)) ∧ h 232 = some (.inl (0, 24, .inl P)) ∧ h 233 = some (.inl (0, 24, .inl M))
theorem x64_le {a b : Int32} : a.toInt64 ≤ b.toInt64 ↔ a ≤ b := by rw [i64_le, i32_le, Int32.toInt_toInt64, Int32.toInt_toInt64]
theorem x64_lt {a b : Int32} : a.toInt64 < b.toInt64 ↔ a < b := by rw [i64_lt, i32_lt, Int32.toInt_toInt64, Int32.toInt_toInt64]
theorem x64_eq {a b : Int32} : a.toInt64 = b.toInt64 ↔ a = b := ⟨fun h => i32_inj (by have := congrArg Int64.toInt h; rw [Int32.toInt_toInt64, Int32.toInt_toInt64] at this; exact this), fun h => by rw [h]⟩
theorem x64_m1 : (-1 : Int32).toInt64 = -1 := by decide
theorem x64_0 : (0 : Int32).toInt64 = 0 := rfl
abbrev xrm (f : Nat → Nat → Int32) (q : Nat) : Prop := f 17 q < 4 ∧ 0 < f 13 q ∧ f 14 q = 0
section KBU
variable {n : Nat → Int32} {f : Nat → Nat → Int32} {g : Nat → Nat → Int64} {nc ni np t q : Nat}
theorem A_l64 (ht : n 1 = nI t) (ht2 : t ≤ 1460) (h : 0 ≤ (f 12 q).toInt ∧ (f 12 q).toInt ≤ 1580) : (n 1).toInt64.toInt = t ∧ (f 12 q).toInt64.toInt = (f 12 q).toInt ∧ (n 1 - f 12 q).toInt = t - (f 12 q).toInt ∧ ((n 1).toInt64 - (f 12 q).toInt64).toInt = t - (f 12 q).toInt := by
  have e1 : (n 1).toInt = t := by rw [ht, nI_toInt (by omega)]
  have e2 : (n 1).toInt64.toInt = t := by rw [Int32.toInt_toInt64, e1]
  have e3 : (f 12 q).toInt64.toInt = (f 12 q).toInt := Int32.toInt_toInt64 _
  exact ⟨e2, e3, by rw [i32_sub (by omega) (by omega), e1], by rw [i64_sub (by omega) (by omega), e2, e3]⟩
theorem xbk_z (l : Int32) : (xbk l).toInt = if l.toInt ≤ 0 then 0 else if l.toInt ≤ 30 then 1 else if l.toInt ≤ 60 then 2 else if l.toInt ≤ 90 then 3 else 4 := by
  have k0 : (0 : Int32).toInt = 0 := rfl
  have k1 : (30 : Int32).toInt = 30 := rfl
  have k2 : (60 : Int32).toInt = 60 := rfl
  have k3 : (90 : Int32).toInt = 90 := rfl
  unfold xbk
  simp only [i32_le, k0, k1, k2, k3]
  split
  · rfl
  split
  · rfl
  split
  · rfl
  split <;> rfl
theorem A_bk0 (ht : n 1 = nI t) (ht2 : t ≤ 1460) (h : 0 ≤ (f 12 q).toInt ∧ (f 12 q).toInt ≤ 1580) (hz : ¬ (f 12 q).toInt64 < (n 1).toInt64) : (xbk (n 1 - f 12 q)).toInt64 = 0 := by
  obtain ⟨e1, e2, e3, e4⟩ := A_l64 ht ht2 h
  rw [i64_lt, e1, e2] at hz
  refine i64_inj ?_
  rw [Int32.toInt_toInt64, xbk_z, e3, if_pos (by omega)]; rfl
theorem A_bk4 (ht : n 1 = nI t) (ht2 : t ≤ 1460) (h : 0 ≤ (f 12 q).toInt ∧ (f 12 q).toInt ≤ 1580) (hz : 90 < (n 1).toInt64 - (f 12 q).toInt64) : (xbk (n 1 - f 12 q)).toInt64 = 4 := by
  obtain ⟨e1, e2, e3, e4⟩ := A_l64 ht ht2 h
  rw [i64_lt, e4, show (90 : Int64).toInt = 90 from rfl] at hz
  refine i64_inj ?_
  rw [Int32.toInt_toInt64, xbk_z, e3, if_neg (by omega), if_neg (by omega), if_neg (by omega), if_neg (by omega)]; rfl
theorem A_bk (ht : n 1 = nI t) (ht2 : t ≤ 1460) (h : 0 ≤ (f 12 q).toInt ∧ (f 12 q).toInt ≤ 1580) (h1 : (f 12 q).toInt64 < (n 1).toInt64) (hz : ¬ 90 < (n 1).toInt64 - (f 12 q).toInt64) : (xbk (n 1 - f 12 q)).toInt64 = ((n 1).toInt64 - (f 12 q).toInt64 + 29) / 30 := by
  obtain ⟨e1, e2, e3, e4⟩ := A_l64 ht ht2 h
  rw [i64_lt, e4, show (90 : Int64).toInt = 90 from rfl] at hz
  rw [i64_lt, e1, e2] at h1
  have k29 : (29 : Int64).toInt = 29 := rfl
  have k30 : (30 : Int64).toInt = 30 := rfl
  have e5 : ((n 1).toInt64 - (f 12 q).toInt64 + 29).toInt = t - (f 12 q).toInt + 29 := by rw [i64_add (by omega) (by omega), e4, k29]
  refine i64_inj ?_
  rw [Int32.toInt_toInt64, xbk_z, e3, i64_div (by omega) (by omega), e5, k30]
  split
  · omega
  split
  · omega
  split
  · omega
  split <;> omega
theorem A_int (hG : JG nc ni np t f g) (ht2 : t ≤ 1460) (h : g 15 q = 0) (hq : q < ni) : xac f g q = 0 := by
  refine i32_inj ?_
  rw [xac_e hG.2.2.2.2 ht2 hq, h, i64_z, Int.zero_ediv]; rfl
theorem A_r64 (ht : n 1 = nI t) (ht2 : t ≤ 1460) (h : 0 ≤ (f 12 q).toInt ∧ (f 12 q).toInt ≤ 1580) : ((f 12 q).toInt64 - (n 1).toInt64 + 1).toInt = (f 12 q).toInt - t + 1 := by
  obtain ⟨e1, e2, e3, e4⟩ := A_l64 ht ht2 h
  have k1 : (1 : Int64).toInt = 1 := rfl
  have s1 := i64_sub (a := (f 12 q).toInt64) (b := (n 1).toInt64) (by omega) (by omega)
  rw [i64_add (by omega) (by omega), s1, e1, e2, k1]
theorem A_m0 (h : ¬ xrm f q) : (xdr n f q).toInt64 = -1 := by
  unfold xdr
  rw [if_pos h]
  exact x64_m1
theorem A_m1 {X : Int32} (h : 1 ≤ X.toInt) : ¬ X.toInt64 < 1 := by
  rw [i64_lt, Int32.toInt_toInt64, show (1 : Int64).toInt = 1 from rfl]
  omega
theorem A_m2 {X : Int32} (ht : n 1 = nI t) (ht2 : t ≤ 1460) (h5 : 0 ≤ (f 12 q).toInt ∧ (f 12 q).toInt ≤ 1580) (h : (f 12 q).toInt - t + 1 ≤ X.toInt) : ¬ X.toInt64 < (f 12 q).toInt64 - (n 1).toInt64 + 1 := by
  rw [i64_lt, Int32.toInt_toInt64, A_r64 ht ht2 h5]
  omega
theorem A_rp {rm : Int32} (h : (rm = 1 ∧ xrm f q) ∨ (rm = 0 ∧ ¬ xrm f q)) (c : ¬ rm = 0) : xrm f q := h.elim (fun y => y.2) (fun y => absurd y.1 c)
theorem A_rn {rm : Int32} (h : (rm = 1 ∧ xrm f q) ∨ (rm = 0 ∧ ¬ xrm f q)) (c : rm = 0) : ¬ xrm f q := h.elim (fun y => absurd (y.1.symm.trans c) (by decide)) (fun y => y.2)
end KBU
theorem xs4 {i : Nat} (h : i < 5) : 0 ≤ nI i ∧ nI i ≤ 4 := ⟨(xle (a := 0) (b := i) (by omega) (by omega)).mpr (Nat.zero_le _), (xle (a := i) (b := 4) (by omega) (by omega)).mpr (by omega)⟩
set_option maxRecDepth 100000 in
set_option maxHeartbeats 4000000 in
theorem p_from {l : Launch} {N0 : Nat} {D : va_G} {dT : Nat → ClassId} (hflags : l.stackTraces = false) {hp : xH} {v lo hi : Int64} (h1 : lo ≤ v) (h2 : v ≤ hi) : xMetP l N0 D dT yL_from cL_from 6 (some FieldType.boolean) 1 0 0 [.long v, .long lo, .long hi] (hp) xNo (fun r h' => r = some (.int 1) ∧ h' = hp) := by
  refine xMetP_of hflags (by decide +kernel) (fun _ _ h => h) (Nat.le_of_ble_eq_true rfl) ?_
  intro E C hN hret
  refine a_loc [(0, .long v), (2, .long lo), (4, .long hi)] (xsub_cons rfl (xsub_cons rfl (xsub_cons rfl (xsub_nil)))) ?_
  refine a_lload_n (i := 0) C dL_from_0 rfl rfl ?_
  refine a_lload_n (i := 2) C dL_from_1 rfl rfl ?_
  refine a_lcmp C dL_from_2 ?_
  refine a_if_lt (tgt := 17) C dL_from_3 (by decide) (fun c3 => ?_) (fun c3 => ?_)
  · exact absurd (lcmp_lt.mp c3) (Int64.not_lt.mpr h1)
  · refine a_lload_n (i := 0) C dL_from_6 rfl rfl ?_
    refine a_lload (i := 4) C dL_from_7 rfl ?_
    refine a_lcmp C dL_from_9 ?_
    refine a_if_gt (tgt := 17) C dL_from_10 (by decide) (fun c10 => ?_) (fun c10 => ?_)
    · exact absurd (lcmp_gt.mp c10) (Int64.not_lt.mpr h2)
    · refine a_iconst (v := 1) C dL_from_13 (by decide) ?_
      refine a_goto (tgt := 18) C dL_from_14 (by decide) ?_
      exact a_zret C dL_from_18 (by first | rfl | exact bI_nar) (Nat.le_of_ble_eq_true rfl) (Nat.le_of_ble_eq_true rfl) (hret _ _ ⟨rfl, rfl⟩)
set_option maxRecDepth 100000 in
set_option maxHeartbeats 4000000 in
theorem au_op {E : xEnv} {l : Launch} {N0 : Nat} {D : va_G} {dT : Nat → ClassId} (hflags : l.stackTraces = false) (C : aC E l N0 D dT cL_addsUp yL_addsUp.cls 14 (some FieldType.boolean) [] (xRm 12 5600 33600) xNo) (hN : xNcE E) {h : xH} {n : Nat → Int32} {f : Nat → Nat → Int32} {g : Nat → Nat → Int64} {nc ni np nl q9 : Nat} {O G P M R : Nat → Int32} (hbs : xBs h) (hJ : JI n f g nc ni np nl q9) (hq : q9 ≤ 500) (hA : xLa h O G P M) (hB : ∀ t, n 1 = nI t → t ≤ 1460 → kB ni t f g) (hK : kK nc ni np nl f g O G P M R) {c : Nat} {KB SB : Nat} (hKB : KB ≤ 5600) (hSB : SB ≤ 33600) (next : ∀ (k s9 : Nat) (jc : Nat → Nat → Int32) (jr : Nat → Int64), k ≤ KB → s9 ≤ SB → aW E k s9 (xC h nc ni np nl (n 1) f g jc jr) 71 [(0, .ref 0), (1, .ref 230), (2, .ref 231), (3, .ref 232), (4, .ref 233), (5, .int 1), (6, .int (nI c)), (7, .long (xsumL (yop f O (nI c)) ni)), (9, .long 0), (11, .long 0)] []) : ∀ (fu i : Nat) (k s9 : Nat) (jc : Nat → Nat → Int32) (jr : Nat → Int64), i ≤ ni → ni < i + fu → k + 1 * (ni - i) ≤ KB → s9 + 6 * (ni - i) ≤ SB → aW E k s9 (xC h nc ni np nl (n 1) f g jc jr) 32 [(0, .ref 0), (1, .ref 230), (2, .ref 231), (3, .ref 232), (4, .ref 233), (5, .int 1), (6, .int (nI c)), (7, .long (xsumL (yop f O (nI c)) i)), (9, .long 0), (11, .long 0), (13, .int (nI i))] [] := by
  have hnl := JI_nl hJ (by omega)
  obtain ⟨hI, ⟨t9, ht, ht2, hG⟩, hLl⟩ := id hJ
  obtain ⟨-, -, -, -, hc6, hi24, hp24, hl16⟩ := id hI
  have hBt := hB t9 ht ht2
  obtain ⟨⟨hkM, hkL, hkV⟩, hk1, hk2, hk3, hk4, hk5, hk6, hk7, hk8⟩ := id hK
  intro fu
  induction fu with
  | zero => intro i k s9 jc jr h1 h2; exact absurd h2 (by omega)
  | succ fu ih =>
    intro i k s9 jc jr h1 h2 hk hs
    refine a_iload (i := 13) C dL_addsUp_32 rfl ?_
    refine a_aload_n (i := 0) C dL_addsUp_34 rfl rfl ?_
    refine a_callV C dL_addsUp_35 cv_X6_invoices tb146 (k_invoices hflags) rfl rfl xC_0 rfl (Nat.le_of_ble_eq_true rfl) ⟨Nat.le_of_ble_eq_true rfl, Nat.le_of_ble_eq_true rfl⟩ ⟨show k + 0 ≤ 5600 by omega, show s9 + 0 ≤ 33600 by omega⟩ (fun _ h => h.elim) xav_no (fun _ _ h => h.elim) (fun r35 hp35 hq35 => ?_)
    obtain ⟨rfl, rfl⟩ := hq35
    refine a_icmp_ge (tgt := 71) C dL_addsUp_38 (by decide) (fun c38 => ?_) (fun c38 => ?_)
    · have hie : i = ni := by
        have := (xle (a := ni) (b := i) (by omega) (by omega)).mp c38
        omega
      rw [hie]
      refine a_loc [(0, .ref 0), (1, .ref 230), (2, .ref 231), (3, .ref 232), (4, .ref 233), (5, .int 1), (6, .int (nI c)), (7, .long (xsumL (yop f O (nI c)) ni)), (9, .long 0), (11, .long 0)] (xsub_cons rfl (xsub_cons rfl (xsub_cons rfl (xsub_cons rfl (xsub_cons rfl (xsub_cons rfl (xsub_cons rfl (xsub_cons rfl (xsub_cons rfl (xsub_cons rfl (xsub_nil))))))))))) ?_
      exact next _ _ _ _ (by omega) (by omega)
    · have hlt : i < ni := by
        rcases Nat.lt_or_ge i ni with q | q
        · exact q
        · exact absurd ((xle (a := ni) (b := i) (by omega) (by omega)).mpr q) c38
      refine a_lload (i := 7) C dL_addsUp_41 rfl ?_
      refine a_aload_n (i := 1) C dL_addsUp_43 rfl rfl ?_
      refine a_iload (i := 13) C dL_addsUp_44 rfl ?_
      refine a_ialdI C dL_addsUp_46 (xC_L hA.1 (by decide)) ⟨by omega, by omega⟩ ?_
      refine a_iload (i := 6) C dL_addsUp_47 rfl ?_
      refine a_icmp_ne (tgt := 61) C dL_addsUp_49 (by decide) (fun c49 => ?_) (fun c49 => ?_)
      · refine a_lconst (v := 0) C dL_addsUp_61 (by decide) ?_
        refine a_ladd C dL_addsUp_62 ?_
        refine a_topl (xsumL (yop f O (nI c)) (i + 1)) (xsumL_s (by first | exact if_neg c49 | exact if_pos c49 | exact if_pos (Classical.not_not.mp c49))) ?_
        refine a_lstore (i := 7) C dL_addsUp_63 (by decide) ?_
        refine a_iinc (i := 13) (v := nI (i + 1)) C dL_addsUp_65 rfl (nI_1 i) (by decide) ?_
        refine a_goto (tgt := 32) C dL_addsUp_68 (by decide) ?_
        refine a_loc [(0, .ref 0), (1, .ref 230), (2, .ref 231), (3, .ref 232), (4, .ref 233), (5, .int 1), (6, .int (nI c)), (7, .long (xsumL (yop f O (nI c)) (i + 1))), (9, .long 0), (11, .long 0), (13, .int (nI (i + 1)))] (xsub_cons rfl (xsub_cons rfl (xsub_cons rfl (xsub_cons rfl (xsub_cons rfl (xsub_cons rfl (xsub_cons rfl (xsub_cons rfl (xsub_cons rfl (xsub_cons rfl (xsub_cons rfl (xsub_nil)))))))))))) ?_
        exact ih (i + 1) _ _ _ _ (by omega) (by omega) (by omega) (by omega)
      · refine a_aload_n (i := 0) C dL_addsUp_52 rfl rfl ?_
        refine a_iload (i := 13) C dL_addsUp_53 rfl ?_
        refine a_callSN (na := 2) C hN dL_addsUp_55 ⟨tb725, tb23, tb726, ⟨by decide, by decide, by decide +kernel⟩⟩ tb724 (w_open hflags hbs hJ hq) rfl rfl (Nat.le_of_ble_eq_true rfl) ⟨Nat.le_of_ble_eq_true rfl, Nat.le_of_ble_eq_true rfl⟩ ⟨show k + 1 ≤ 5600 by omega, show s9 + 6 ≤ 33600 by omega⟩ (fun _ h => h.elim) xav_no (fun r55 hp55 hq55 => ?_)
        obtain ⟨rfl, jc55, jr55, rfl⟩ := pP_rd (v' := f 13 i) hq55 (xin_of hlt (by omega)) (by rw [nI_clamp (by omega)])
        refine a_goto (tgt := 62) C dL_addsUp_58 (by decide) ?_
        refine a_ladd C dL_addsUp_62 ?_
        refine a_topl (xsumL (yop f O (nI c)) (i + 1)) (xsumL_s (by first | exact if_neg c49 | exact if_pos c49 | exact if_pos (Classical.not_not.mp c49))) ?_
        refine a_lstore (i := 7) C dL_addsUp_63 (by decide) ?_
        refine a_iinc (i := 13) (v := nI (i + 1)) C dL_addsUp_65 rfl (nI_1 i) (by decide) ?_
        refine a_goto (tgt := 32) C dL_addsUp_68 (by decide) ?_
        refine a_loc [(0, .ref 0), (1, .ref 230), (2, .ref 231), (3, .ref 232), (4, .ref 233), (5, .int 1), (6, .int (nI c)), (7, .long (xsumL (yop f O (nI c)) (i + 1))), (9, .long 0), (11, .long 0), (13, .int (nI (i + 1)))] (xsub_cons rfl (xsub_cons rfl (xsub_cons rfl (xsub_cons rfl (xsub_cons rfl (xsub_cons rfl (xsub_cons rfl (xsub_cons rfl (xsub_cons rfl (xsub_cons rfl (xsub_cons rfl (xsub_nil)))))))))))) ?_
        exact ih (i + 1) _ _ _ _ (by omega) (by omega) (by omega) (by omega)
set_option maxRecDepth 100000 in
set_option maxHeartbeats 4000000 in
theorem au_re {E : xEnv} {l : Launch} {N0 : Nat} {D : va_G} {dT : Nat → ClassId} (hflags : l.stackTraces = false) (C : aC E l N0 D dT cL_addsUp yL_addsUp.cls 14 (some FieldType.boolean) [] (xRm 12 5600 33600) xNo) (hN : xNcE E) {h : xH} {n : Nat → Int32} {f : Nat → Nat → Int32} {g : Nat → Nat → Int64} {nc ni np nl q9 : Nat} {O G P M R : Nat → Int32} (hbs : xBs h) (hJ : JI n f g nc ni np nl q9) (hq : q9 ≤ 500) (hA : xLa h O G P M) (hB : ∀ t, n 1 = nI t → t ≤ 1460 → kB ni t f g) (hK : kK nc ni np nl f g O G P M R) {c : Nat} {v7 : Int64} {KB SB : Nat} (hKB : KB ≤ 5600) (hSB : SB ≤ 33600) (next : ∀ (k s9 : Nat) (jc : Nat → Nat → Int32) (jr : Nat → Int64), k ≤ KB → s9 ≤ SB → aW E k s9 (xC h nc ni np nl (n 1) f g jc jr) 113 [(0, .ref 0), (1, .ref 230), (2, .ref 231), (3, .ref 232), (4, .ref 233), (5, .int 1), (6, .int (nI c)), (7, .long v7), (9, .long (xsumL (yre f P (nI c)) np)), (11, .long 0)] []) : ∀ (fu i : Nat) (k s9 : Nat) (jc : Nat → Nat → Int32) (jr : Nat → Int64), i ≤ np → np < i + fu → k + 1 * (np - i) ≤ KB → s9 + 6 * (np - i) ≤ SB → aW E k s9 (xC h nc ni np nl (n 1) f g jc jr) 74 [(0, .ref 0), (1, .ref 230), (2, .ref 231), (3, .ref 232), (4, .ref 233), (5, .int 1), (6, .int (nI c)), (7, .long v7), (9, .long (xsumL (yre f P (nI c)) i)), (11, .long 0), (13, .int (nI i))] [] := by
  have hnl := JI_nl hJ (by omega)
  obtain ⟨hI, ⟨t9, ht, ht2, hG⟩, hLl⟩ := id hJ
  obtain ⟨-, -, -, -, hc6, hi24, hp24, hl16⟩ := id hI
  have hBt := hB t9 ht ht2
  obtain ⟨⟨hkM, hkL, hkV⟩, hk1, hk2, hk3, hk4, hk5, hk6, hk7, hk8⟩ := id hK
  intro fu
  induction fu with
  | zero => intro i k s9 jc jr h1 h2; exact absurd h2 (by omega)
  | succ fu ih =>
    intro i k s9 jc jr h1 h2 hk hs
    refine a_iload (i := 13) C dL_addsUp_74 rfl ?_
    refine a_aload_n (i := 0) C dL_addsUp_76 rfl rfl ?_
    refine a_callV C dL_addsUp_77 cv_X6_payments tb150 (k_payments hflags) rfl rfl xC_0 rfl (Nat.le_of_ble_eq_true rfl) ⟨Nat.le_of_ble_eq_true rfl, Nat.le_of_ble_eq_true rfl⟩ ⟨show k + 0 ≤ 5600 by omega, show s9 + 0 ≤ 33600 by omega⟩ (fun _ h => h.elim) xav_no (fun _ _ h => h.elim) (fun r77 hp77 hq77 => ?_)
    obtain ⟨rfl, rfl⟩ := hq77
    refine a_icmp_ge (tgt := 113) C dL_addsUp_80 (by decide) (fun c80 => ?_) (fun c80 => ?_)
    · have hie : i = np := by
        have := (xle (a := np) (b := i) (by omega) (by omega)).mp c80
        omega
      rw [hie]
      refine a_loc [(0, .ref 0), (1, .ref 230), (2, .ref 231), (3, .ref 232), (4, .ref 233), (5, .int 1), (6, .int (nI c)), (7, .long v7), (9, .long (xsumL (yre f P (nI c)) np)), (11, .long 0)] (xsub_cons rfl (xsub_cons rfl (xsub_cons rfl (xsub_cons rfl (xsub_cons rfl (xsub_cons rfl (xsub_cons rfl (xsub_cons rfl (xsub_cons rfl (xsub_cons rfl (xsub_nil))))))))))) ?_
      exact next _ _ _ _ (by omega) (by omega)
    · have hlt : i < np := by
        rcases Nat.lt_or_ge i np with q | q
        · exact q
        · exact absurd ((xle (a := np) (b := i) (by omega) (by omega)).mpr q) c80
      refine a_lload (i := 9) C dL_addsUp_83 rfl ?_
      refine a_aload_n (i := 3) C dL_addsUp_85 rfl rfl ?_
      refine a_iload (i := 13) C dL_addsUp_86 rfl ?_
      refine a_ialdI C dL_addsUp_88 (xC_L hA.2.2.1 (by decide)) ⟨by omega, by omega⟩ ?_
      refine a_iload (i := 6) C dL_addsUp_89 rfl ?_
      refine a_icmp_ne (tgt := 103) C dL_addsUp_91 (by decide) (fun c91 => ?_) (fun c91 => ?_)
      · refine a_lconst (v := 0) C dL_addsUp_103 (by decide) ?_
        refine a_ladd C dL_addsUp_104 ?_
        refine a_topl (xsumL (yre f P (nI c)) (i + 1)) (xsumL_s (by first | exact if_neg c91 | exact if_pos c91 | exact if_pos (Classical.not_not.mp c91))) ?_
        refine a_lstore (i := 9) C dL_addsUp_105 (by decide) ?_
        refine a_iinc (i := 13) (v := nI (i + 1)) C dL_addsUp_107 rfl (nI_1 i) (by decide) ?_
        refine a_goto (tgt := 74) C dL_addsUp_110 (by decide) ?_
        refine a_loc [(0, .ref 0), (1, .ref 230), (2, .ref 231), (3, .ref 232), (4, .ref 233), (5, .int 1), (6, .int (nI c)), (7, .long v7), (9, .long (xsumL (yre f P (nI c)) (i + 1))), (11, .long 0), (13, .int (nI (i + 1)))] (xsub_cons rfl (xsub_cons rfl (xsub_cons rfl (xsub_cons rfl (xsub_cons rfl (xsub_cons rfl (xsub_cons rfl (xsub_cons rfl (xsub_cons rfl (xsub_cons rfl (xsub_cons rfl (xsub_nil)))))))))))) ?_
        exact ih (i + 1) _ _ _ _ (by omega) (by omega) (by omega) (by omega)
      · refine a_aload_n (i := 0) C dL_addsUp_94 rfl rfl ?_
        refine a_iload (i := 13) C dL_addsUp_95 rfl ?_
        refine a_callSN (na := 2) C hN dL_addsUp_97 ⟨tb746, tb23, tb747, ⟨by decide, by decide, by decide +kernel⟩⟩ tb745 (w_unallocated hflags hbs hJ hq) rfl rfl (Nat.le_of_ble_eq_true rfl) ⟨Nat.le_of_ble_eq_true rfl, Nat.le_of_ble_eq_true rfl⟩ ⟨show k + 1 ≤ 5600 by omega, show s9 + 6 ≤ 33600 by omega⟩ (fun _ h => h.elim) xav_no (fun r97 hp97 hq97 => ?_)
        obtain ⟨rfl, jc97, jr97, rfl⟩ := pP_rd (v' := f 20 i) hq97 (xin_of hlt (by omega)) (by rw [nI_clamp (by omega)])
        refine a_goto (tgt := 104) C dL_addsUp_100 (by decide) ?_
        refine a_ladd C dL_addsUp_104 ?_
        refine a_topl (xsumL (yre f P (nI c)) (i + 1)) (xsumL_s (by first | exact if_neg c91 | exact if_pos c91 | exact if_pos (Classical.not_not.mp c91))) ?_
        refine a_lstore (i := 9) C dL_addsUp_105 (by decide) ?_
        refine a_iinc (i := 13) (v := nI (i + 1)) C dL_addsUp_107 rfl (nI_1 i) (by decide) ?_
        refine a_goto (tgt := 74) C dL_addsUp_110 (by decide) ?_
        refine a_loc [(0, .ref 0), (1, .ref 230), (2, .ref 231), (3, .ref 232), (4, .ref 233), (5, .int 1), (6, .int (nI c)), (7, .long v7), (9, .long (xsumL (yre f P (nI c)) (i + 1))), (11, .long 0), (13, .int (nI (i + 1)))] (xsub_cons rfl (xsub_cons rfl (xsub_cons rfl (xsub_cons rfl (xsub_cons rfl (xsub_cons rfl (xsub_cons rfl (xsub_cons rfl (xsub_cons rfl (xsub_cons rfl (xsub_cons rfl (xsub_nil)))))))))))) ?_
        exact ih (i + 1) _ _ _ _ (by omega) (by omega) (by omega) (by omega)
set_option maxRecDepth 100000 in
set_option maxHeartbeats 4000000 in
theorem au_ag {E : xEnv} {l : Launch} {N0 : Nat} {D : va_G} {dT : Nat → ClassId} (hflags : l.stackTraces = false) (C : aC E l N0 D dT cL_addsUp yL_addsUp.cls 14 (some FieldType.boolean) [] (xRm 12 5600 33600) xNo) (hN : xNcE E) {h : xH} {n : Nat → Int32} {f : Nat → Nat → Int32} {g : Nat → Nat → Int64} {nc ni np nl q9 : Nat} {O G P M R : Nat → Int32} (hbs : xBs h) (hJ : JI n f g nc ni np nl q9) (hq : q9 ≤ 500) (hA : xLa h O G P M) (hB : ∀ t, n 1 = nI t → t ≤ 1460 → kB ni t f g) (hK : kK nc ni np nl f g O G P M R) {c : Nat} {v7 v9 : Int64} (hc : c < nc) {KB SB : Nat} (hKB : KB ≤ 5600) (hSB : SB ≤ 33600) (next : ∀ (k s9 : Nat) (jc : Nat → Nat → Int32) (jr : Nat → Int64), k ≤ KB → s9 ≤ SB → aW E k s9 (xC h nc ni np nl (n 1) f g jc jr) 141 [(0, .ref 0), (1, .ref 230), (2, .ref 231), (3, .ref 232), (4, .ref 233), (5, .int 1), (6, .int (nI c)), (7, .long v7), (9, .long v9), (11, .long (xsumL (yage n f (nI c) ni) 5))] []) : ∀ (fu i : Nat) (k s9 : Nat) (jc : Nat → Nat → Int32) (jr : Nat → Int64), i ≤ 5 → 5 < i + fu → k + 2 * (5 - i) ≤ KB → s9 + 12 * (5 - i) ≤ SB → aW E k s9 (xC h nc ni np nl (n 1) f g jc jr) 116 [(0, .ref 0), (1, .ref 230), (2, .ref 231), (3, .ref 232), (4, .ref 233), (5, .int 1), (6, .int (nI c)), (7, .long v7), (9, .long v9), (11, .long (xsumL (yage n f (nI c) ni) i)), (13, .int (nI i))] [] := by
  have hnl := JI_nl hJ (by omega)
  obtain ⟨hI, ⟨t9, ht, ht2, hG⟩, hLl⟩ := id hJ
  obtain ⟨-, -, -, -, hc6, hi24, hp24, hl16⟩ := id hI
  have hBt := hB t9 ht ht2
  obtain ⟨⟨hkM, hkL, hkV⟩, hk1, hk2, hk3, hk4, hk5, hk6, hk7, hk8⟩ := id hK
  intro fu
  induction fu with
  | zero => intro i k s9 jc jr h1 h2; exact absurd h2 (by omega)
  | succ fu ih =>
    intro i k s9 jc jr h1 h2 hk hs
    refine a_iload (i := 13) C dL_addsUp_116 rfl ?_
    refine a_iconst (v := 5) C dL_addsUp_118 (by decide) ?_
    refine a_icmp_ge (tgt := 141) C dL_addsUp_119 (by decide) (fun c119 => ?_) (fun c119 => ?_)
    · have hie : i = 5 := by
        have := (xle (a := 5) (b := i) (by omega) (by omega)).mp c119
        omega
      rw [hie]
      refine a_loc [(0, .ref 0), (1, .ref 230), (2, .ref 231), (3, .ref 232), (4, .ref 233), (5, .int 1), (6, .int (nI c)), (7, .long v7), (9, .long v9), (11, .long (xsumL (yage n f (nI c) ni) 5))] (xsub_cons rfl (xsub_cons rfl (xsub_cons rfl (xsub_cons rfl (xsub_cons rfl (xsub_cons rfl (xsub_cons rfl (xsub_cons rfl (xsub_cons rfl (xsub_cons rfl (xsub_nil))))))))))) ?_
      exact next _ _ _ _ (by omega) (by omega)
    · have hlt : i < 5 := by
        rcases Nat.lt_or_ge i 5 with q | q
        · exact q
        · exact absurd ((xle (a := 5) (b := i) (by omega) (by omega)).mpr q) c119
      refine a_lload (i := 11) C dL_addsUp_122 rfl ?_
      refine a_aload_n (i := 0) C dL_addsUp_124 rfl rfl ?_
      refine a_iload (i := 6) C dL_addsUp_125 rfl ?_
      refine a_iload (i := 13) C dL_addsUp_127 rfl ?_
      refine a_callSN (na := 3) C hN dL_addsUp_129 ⟨tb836, tb23, tb837, ⟨by decide, by decide, by decide +kernel⟩⟩ tb835 (w_ageing hflags hbs hJ hq) rfl rfl (Nat.le_of_ble_eq_true rfl) ⟨Nat.le_of_ble_eq_true rfl, Nat.le_of_ble_eq_true rfl⟩ ⟨show k + 2 ≤ 5600 by omega, show s9 + 12 ≤ 33600 by omega⟩ (fun _ h => h.elim) xav_no (fun r129 hp129 hq129 => ?_)
      obtain ⟨rfl, jc129, jr129, rfl⟩ := pP_rd (v' := xsum (xage n f (nI c) (nI i)) ni) hq129 ⟨xin_of hc (by omega), xs4 hlt⟩ (rfl)
      refine a_ladd C dL_addsUp_132 ?_
      refine a_topl (xsumL (yage n f (nI c) ni) (i + 1)) rfl ?_
      refine a_lstore (i := 11) C dL_addsUp_133 (by decide) ?_
      refine a_iinc (i := 13) (v := nI (i + 1)) C dL_addsUp_135 rfl (nI_1 i) (by decide) ?_
      refine a_goto (tgt := 116) C dL_addsUp_138 (by decide) ?_
      refine a_loc [(0, .ref 0), (1, .ref 230), (2, .ref 231), (3, .ref 232), (4, .ref 233), (5, .int 1), (6, .int (nI c)), (7, .long v7), (9, .long v9), (11, .long (xsumL (yage n f (nI c) ni) (i + 1))), (13, .int (nI (i + 1)))] (xsub_cons rfl (xsub_cons rfl (xsub_cons rfl (xsub_cons rfl (xsub_cons rfl (xsub_cons rfl (xsub_cons rfl (xsub_cons rfl (xsub_cons rfl (xsub_cons rfl (xsub_cons rfl (xsub_nil)))))))))))) ?_
      exact ih (i + 1) _ _ _ _ (by omega) (by omega) (by omega) (by omega)
set_option maxRecDepth 100000 in
set_option maxHeartbeats 4000000 in
theorem au_cust {E : xEnv} {l : Launch} {N0 : Nat} {D : va_G} {dT : Nat → ClassId} (hflags : l.stackTraces = false) (C : aC E l N0 D dT cL_addsUp yL_addsUp.cls 14 (some FieldType.boolean) [] (xRm 12 5600 33600) xNo) (hN : xNcE E) {h : xH} {n : Nat → Int32} {f : Nat → Nat → Int32} {g : Nat → Nat → Int64} {nc ni np nl q9 : Nat} {O G P M R : Nat → Int32} (hbs : xBs h) (hJ : JI n f g nc ni np nl q9) (hq : q9 ≤ 500) (hA : xLa h O G P M) (hB : ∀ t, n 1 = nI t → t ≤ 1460 → kB ni t f g) (hK : kK nc ni np nl f g O G P M R)  {KB SB : Nat} (hKB : KB ≤ 5600) (hSB : SB ≤ 33600) (next : ∀ (k s9 : Nat) (jc : Nat → Nat → Int32) (jr : Nat → Int64), k ≤ KB → s9 ≤ SB → aW E k s9 (xC h nc ni np nl (n 1) f g jc jr) 177 [(0, .ref 0), (1, .ref 230), (2, .ref 231), (3, .ref 232), (4, .ref 233), (5, .int 1)] []) : ∀ (fu i : Nat) (k s9 : Nat) (jc : Nat → Nat → Int32) (jr : Nat → Int64), i ≤ nc → nc < i + fu → k + 59 * (nc - i) ≤ KB → s9 + 354 * (nc - i) ≤ SB → aW E k s9 (xC h nc ni np nl (n 1) f g jc jr) 6 [(0, .ref 0), (1, .ref 230), (2, .ref 231), (3, .ref 232), (4, .ref 233), (5, .int 1), (6, .int (nI i))] [] := by
  have hnl := JI_nl hJ (by omega)
  obtain ⟨hI, ⟨t9, ht, ht2, hG⟩, hLl⟩ := id hJ
  obtain ⟨-, -, -, -, hc6, hi24, hp24, hl16⟩ := id hI
  have hBt := hB t9 ht ht2
  obtain ⟨⟨hkM, hkL, hkV⟩, hk1, hk2, hk3, hk4, hk5, hk6, hk7, hk8⟩ := id hK
  intro fu
  induction fu with
  | zero => intro i k s9 jc jr h1 h2; exact absurd h2 (by omega)
  | succ fu ih =>
    intro i k s9 jc jr h1 h2 hk hs
    refine a_iload (i := 6) C dL_addsUp_6 rfl ?_
    refine a_aload_n (i := 0) C dL_addsUp_8 rfl rfl ?_
    refine a_callV C dL_addsUp_9 cv_X6_customers tb138 (k_customers hflags) rfl rfl xC_0 rfl (Nat.le_of_ble_eq_true rfl) ⟨Nat.le_of_ble_eq_true rfl, Nat.le_of_ble_eq_true rfl⟩ ⟨show k + 0 ≤ 5600 by omega, show s9 + 0 ≤ 33600 by omega⟩ (fun _ h => h.elim) xav_no (fun _ _ h => h.elim) (fun r9 hp9 hq9 => ?_)
    obtain ⟨rfl, rfl⟩ := hq9
    refine a_icmp_ge (tgt := 177) C dL_addsUp_12 (by decide) (fun c12 => ?_) (fun c12 => ?_)
    · have hie : i = nc := by
        have := (xle (a := nc) (b := i) (by omega) (by omega)).mp c12
        omega
      rw [hie]
      refine a_loc [(0, .ref 0), (1, .ref 230), (2, .ref 231), (3, .ref 232), (4, .ref 233), (5, .int 1)] (xsub_cons rfl (xsub_cons rfl (xsub_cons rfl (xsub_cons rfl (xsub_cons rfl (xsub_cons rfl (xsub_nil))))))) ?_
      exact next _ _ _ _ (by omega) (by omega)
    · have hlt : i < nc := by
        rcases Nat.lt_or_ge i nc with q | q
        · exact q
        · exact absurd ((xle (a := nc) (b := i) (by omega) (by omega)).mpr q) c12
      refine a_iload (i := 5) C dL_addsUp_15 rfl ?_
      refine a_if_eq (tgt := 177) C dL_addsUp_17 (by decide) (fun z => absurd z (by decide)) (fun _ => ?_)
      refine a_lconst (v := 0) C dL_addsUp_20 (by decide) ?_
      refine a_lstore (i := 7) C dL_addsUp_21 (by decide) ?_
      refine a_lconst (v := 0) C dL_addsUp_23 (by decide) ?_
      refine a_lstore (i := 9) C dL_addsUp_24 (by decide) ?_
      refine a_lconst (v := 0) C dL_addsUp_26 (by decide) ?_
      refine a_lstore (i := 11) C dL_addsUp_27 (by decide) ?_
      refine a_iconst (v := 0) C dL_addsUp_29 (by decide) ?_
      refine a_istore (i := 13) C dL_addsUp_30 (by decide) ?_
      refine a_loc [(0, .ref 0), (1, .ref 230), (2, .ref 231), (3, .ref 232), (4, .ref 233), (5, .int 1), (6, .int (nI i)), (7, .long (xsumL (yop f O (nI i)) 0)), (9, .long 0), (11, .long 0), (13, .int (nI 0))] (xsub_cons rfl (xsub_cons rfl (xsub_cons rfl (xsub_cons rfl (xsub_cons rfl (xsub_cons rfl (xsub_cons rfl (xsub_cons rfl (xsub_cons rfl (xsub_cons rfl (xsub_cons rfl (xsub_nil)))))))))))) ?_
      refine au_op hflags C hN hbs hJ hq hA hB hK (KB := k + 24) (SB := s9 + 144) (by omega) (by omega) (fun k71 s71 jc71 jr71 hk71 hs71 => ?_) (ni + 1) 0 k s9 _ _ (Nat.zero_le _) (by omega) (by omega) (by omega)
      refine a_iconst (v := 0) C dL_addsUp_71 (by decide) ?_
      refine a_istore (i := 13) C dL_addsUp_72 (by decide) ?_
      refine a_loc [(0, .ref 0), (1, .ref 230), (2, .ref 231), (3, .ref 232), (4, .ref 233), (5, .int 1), (6, .int (nI i)), (7, .long (xsumL (yop f O (nI i)) ni)), (9, .long (xsumL (yre f P (nI i)) 0)), (11, .long 0), (13, .int (nI 0))] (xsub_cons rfl (xsub_cons rfl (xsub_cons rfl (xsub_cons rfl (xsub_cons rfl (xsub_cons rfl (xsub_cons rfl (xsub_cons rfl (xsub_cons rfl (xsub_cons rfl (xsub_cons rfl (xsub_nil)))))))))))) ?_
      refine au_re hflags C hN hbs hJ hq hA hB hK (KB := k71 + 24) (SB := s71 + 144) (by omega) (by omega) (fun k113 s113 jc113 jr113 hk113 hs113 => ?_) (np + 1) 0 k71 s71 _ _ (Nat.zero_le _) (by omega) (by omega) (by omega)
      refine a_iconst (v := 0) C dL_addsUp_113 (by decide) ?_
      refine a_istore (i := 13) C dL_addsUp_114 (by decide) ?_
      refine a_loc [(0, .ref 0), (1, .ref 230), (2, .ref 231), (3, .ref 232), (4, .ref 233), (5, .int 1), (6, .int (nI i)), (7, .long (xsumL (yop f O (nI i)) ni)), (9, .long (xsumL (yre f P (nI i)) np)), (11, .long (xsumL (yage n f (nI i) ni) 0)), (13, .int (nI 0))] (xsub_cons rfl (xsub_cons rfl (xsub_cons rfl (xsub_cons rfl (xsub_cons rfl (xsub_cons rfl (xsub_cons rfl (xsub_cons rfl (xsub_cons rfl (xsub_cons rfl (xsub_cons rfl (xsub_nil)))))))))))) ?_
      refine au_ag hflags C hN hbs hJ hq hA hB hK (KB := k113 + 10) (SB := s113 + 60) (hc := hlt) (by omega) (by omega) (fun k141 s141 jc141 jr141 hk141 hs141 => ?_) (5 + 1) 0 k113 s113 _ _ (Nat.zero_le _) (by omega) (by omega) (by omega)
      refine a_aload_n (i := 0) C dL_addsUp_141 rfl rfl ?_
      refine a_iload (i := 6) C dL_addsUp_142 rfl ?_
      refine a_callSN (na := 2) C hN dL_addsUp_144 ⟨tb879, tb23, tb880, ⟨by decide, by decide, by decide +kernel⟩⟩ tb878 (w_balance hflags hbs hJ hq) rfl rfl (Nat.le_of_ble_eq_true rfl) ⟨Nat.le_of_ble_eq_true rfl, Nat.le_of_ble_eq_true rfl⟩ ⟨show k141 + 1 ≤ 5600 by omega, show s141 + 6 ≤ 33600 by omega⟩ (fun _ h => h.elim) xav_no (fun r144 hp144 hq144 => ?_)
      obtain ⟨rfl, jc144, jr144, rfl⟩ := pP_rd (v' := xbal f (nI i) ni np) hq144 (xin_of hlt (by omega)) (rfl)
      refine a_lload (i := 7) C dL_addsUp_147 rfl ?_
      refine a_lload (i := 9) C dL_addsUp_149 rfl ?_
      refine a_lsub C dL_addsUp_151 ?_
      refine a_lcmp C dL_addsUp_152 ?_
      refine a_if_ne (tgt := 168) C dL_addsUp_153 (by decide) (fun c153 => ?_) (fun c153 => ?_)
      · exact absurd (lcmp_eq.mpr (A_bal hG hBt hk1 hk2 hi24 hp24)) c153
      · refine a_lload (i := 11) C dL_addsUp_156 rfl ?_
        refine a_lload (i := 7) C dL_addsUp_158 rfl ?_
        refine a_lcmp C dL_addsUp_160 ?_
        refine a_if_ne (tgt := 168) C dL_addsUp_161 (by decide) (fun c161 => ?_) (fun c161 => ?_)
        · exact absurd (lcmp_eq.mpr (A_age hG hBt hk1 hi24)) c161
        · refine a_iconst (v := 1) C dL_addsUp_164 (by decide) ?_
          refine a_goto (tgt := 169) C dL_addsUp_165 (by decide) ?_
          refine a_istore (i := 5) C dL_addsUp_169 (by decide) ?_
          refine a_iinc (i := 6) (v := nI (i + 1)) C dL_addsUp_171 rfl (nI_1 i) (by decide) ?_
          refine a_goto (tgt := 6) C dL_addsUp_174 (by decide) ?_
          refine a_loc [(0, .ref 0), (1, .ref 230), (2, .ref 231), (3, .ref 232), (4, .ref 233), (5, .int 1), (6, .int (nI (i + 1)))] (xsub_cons rfl (xsub_cons rfl (xsub_cons rfl (xsub_cons rfl (xsub_cons rfl (xsub_cons rfl (xsub_cons rfl (xsub_nil)))))))) ?_
          exact ih (i + 1) _ _ _ _ (by omega) (by omega) (by omega) (by omega)
set_option maxRecDepth 100000 in
set_option maxHeartbeats 4000000 in
theorem au_cell {E : xEnv} {l : Launch} {N0 : Nat} {D : va_G} {dT : Nat → ClassId} (hflags : l.stackTraces = false) (C : aC E l N0 D dT cL_addsUp yL_addsUp.cls 14 (some FieldType.boolean) [] (xRm 12 5600 33600) xNo) (hN : xNcE E) {h : xH} {n : Nat → Int32} {f : Nat → Nat → Int32} {g : Nat → Nat → Int64} {nc ni np nl q9 : Nat} {O G P M R : Nat → Int32} (hbs : xBs h) (hJ : JI n f g nc ni np nl q9) (hq : q9 ≤ 500) (hA : xLa h O G P M) (hB : ∀ t, n 1 = nI t → t ≤ 1460 → kB ni t f g) (hK : kK nc ni np nl f g O G P M R) {q : Nat} (hq2 : q < ni) {KB SB : Nat} (hKB : KB ≤ 5600) (hSB : SB ≤ 33600) (next : ∀ (k s9 : Nat) (jc : Nat → Nat → Int32) (jr : Nat → Int64), k ≤ KB → s9 ≤ SB → aW E k s9 (xC h nc ni np nl (n 1) f g jc jr) 288 [(0, .ref 0), (1, .ref 230), (2, .ref 231), (3, .ref 232), (4, .ref 233), (5, .int 1), (6, .int (nI q)), (7, .long (f 13 q).toInt64)] []) : ∀ (fu i : Nat) (k s9 : Nat) (jc : Nat → Nat → Int32) (jr : Nat → Int64), i ≤ np → np < i + fu → k + 6 * (np - i) ≤ KB → s9 + 36 * (np - i) ≤ SB → aW E k s9 (xC h nc ni np nl (n 1) f g jc jr) 211 [(0, .ref 0), (1, .ref 230), (2, .ref 231), (3, .ref 232), (4, .ref 233), (5, .int 1), (6, .int (nI q)), (7, .long (ysub ((f 11 q).toInt64 - (G q).toInt64) (fun k => (f 22 (24 * k + q)).toInt64) i)), (9, .int (nI i))] [] := by
  have hnl := JI_nl hJ (by omega)
  obtain ⟨hI, ⟨t9, ht, ht2, hG⟩, hLl⟩ := id hJ
  obtain ⟨-, -, -, -, hc6, hi24, hp24, hl16⟩ := id hI
  have hBt := hB t9 ht ht2
  obtain ⟨⟨hkM, hkL, hkV⟩, hk1, hk2, hk3, hk4, hk5, hk6, hk7, hk8⟩ := id hK
  intro fu
  induction fu with
  | zero => intro i k s9 jc jr h1 h2; exact absurd h2 (by omega)
  | succ fu ih =>
    intro i k s9 jc jr h1 h2 hk hs
    refine a_iload (i := 9) C dL_addsUp_211 rfl ?_
    refine a_aload_n (i := 0) C dL_addsUp_213 rfl rfl ?_
    refine a_callV C dL_addsUp_214 cv_X6_payments tb150 (k_payments hflags) rfl rfl xC_0 rfl (Nat.le_of_ble_eq_true rfl) ⟨Nat.le_of_ble_eq_true rfl, Nat.le_of_ble_eq_true rfl⟩ ⟨show k + 0 ≤ 5600 by omega, show s9 + 0 ≤ 33600 by omega⟩ (fun _ h => h.elim) xav_no (fun _ _ h => h.elim) (fun r214 hp214 hq214 => ?_)
    obtain ⟨rfl, rfl⟩ := hq214
    refine a_icmp_ge (tgt := 288) C dL_addsUp_217 (by decide) (fun c217 => ?_) (fun c217 => ?_)
    · have hie : i = np := by
        have := (xle (a := np) (b := i) (by omega) (by omega)).mp c217
        omega
      rw [hie, A_sub hG hkM hp24 hq2]
      refine a_loc [(0, .ref 0), (1, .ref 230), (2, .ref 231), (3, .ref 232), (4, .ref 233), (5, .int 1), (6, .int (nI q)), (7, .long (f 13 q).toInt64)] (xsub_cons rfl (xsub_cons rfl (xsub_cons rfl (xsub_cons rfl (xsub_cons rfl (xsub_cons rfl (xsub_cons rfl (xsub_cons rfl (xsub_nil))))))))) ?_
      exact next _ _ _ _ (by omega) (by omega)
    · have hlt : i < np := by
        rcases Nat.lt_or_ge i np with q | q
        · exact q
        · exact absurd ((xle (a := np) (b := i) (by omega) (by omega)).mpr q) c217
      refine a_iload (i := 5) C dL_addsUp_220 rfl ?_
      refine a_if_eq (tgt := 288) C dL_addsUp_222 (by decide) (fun z => absurd z (by decide)) (fun _ => ?_)
      refine a_lload (i := 7) C dL_addsUp_225 rfl ?_
      refine a_aload_n (i := 0) C dL_addsUp_227 rfl rfl ?_
      refine a_iload (i := 9) C dL_addsUp_228 rfl ?_
      refine a_iload (i := 6) C dL_addsUp_230 rfl ?_
      refine a_callSN (na := 3) C hN dL_addsUp_232 ⟨tb739, tb23, tb740, ⟨by decide, by decide, by decide +kernel⟩⟩ tb738 (w_allocated hflags hbs hJ hq) rfl rfl (Nat.le_of_ble_eq_true rfl) ⟨Nat.le_of_ble_eq_true rfl, Nat.le_of_ble_eq_true rfl⟩ ⟨show k + 2 ≤ 5600 by omega, show s9 + 12 ≤ 33600 by omega⟩ (fun _ h => h.elim) xav_no (fun r232 hp232 hq232 => ?_)
      obtain ⟨rfl, jc232, jr232, rfl⟩ := pP_rd (v' := f 22 (24 * i + q)) hq232 ⟨xin_of hlt (by omega), xin_of hq2 (by omega)⟩ (by rw [nI_clamp (by omega), nI_clamp (by omega)])
      refine a_lsub C dL_addsUp_235 ?_
      refine a_topl (ysub ((f 11 q).toInt64 - (G q).toInt64) (fun k => (f 22 (24 * k + q)).toInt64) (i + 1)) rfl ?_
      refine a_lstore (i := 7) C dL_addsUp_236 (by decide) ?_
      refine a_aload_n (i := 0) C dL_addsUp_238 rfl rfl ?_
      refine a_iload (i := 9) C dL_addsUp_239 rfl ?_
      refine a_iload (i := 6) C dL_addsUp_241 rfl ?_
      refine a_callSN (na := 3) C hN dL_addsUp_243 ⟨tb739, tb23, tb740, ⟨by decide, by decide, by decide +kernel⟩⟩ tb738 (w_allocated hflags hbs hJ hq) rfl rfl (Nat.le_of_ble_eq_true rfl) ⟨Nat.le_of_ble_eq_true rfl, Nat.le_of_ble_eq_true rfl⟩ ⟨show k + 2 + 2 ≤ 5600 by omega, show s9 + 12 + 12 ≤ 33600 by omega⟩ (fun _ h => h.elim) xav_no (fun r243 hp243 hq243 => ?_)
      obtain ⟨rfl, jc243, jr243, rfl⟩ := pP_rd (v' := f 22 (24 * i + q)) hq243 ⟨xin_of hlt (by omega), xin_of hq2 (by omega)⟩ (by rw [nI_clamp (by omega), nI_clamp (by omega)])
      refine a_lconst (v := 0) C dL_addsUp_246 (by decide) ?_
      refine a_lcmp C dL_addsUp_247 ?_
      refine a_if_lt (tgt := 279) C dL_addsUp_248 (by decide) (fun c248 => ?_) (fun c248 => ?_)
      · exact absurd (lcmp_lt.mp c248) (by rw [← x64_0, x64_lt, i32_lt, i32_z]; exact Int.not_lt.mpr (hG.2.2.2.1.2.2.2.1 i q hlt hq2))
      · refine a_aload_n (i := 1) C dL_addsUp_251 rfl rfl ?_
        refine a_iload (i := 6) C dL_addsUp_252 rfl ?_
        refine a_ialdI C dL_addsUp_254 (xC_L hA.1 (by decide)) ⟨by omega, by omega⟩ ?_
        refine a_aload_n (i := 3) C dL_addsUp_255 rfl rfl ?_
        refine a_iload (i := 9) C dL_addsUp_256 rfl ?_
        refine a_ialdI C dL_addsUp_258 (xC_L hA.2.2.1 (by decide)) ⟨by omega, by omega⟩ ?_
        refine a_icmp_eq (tgt := 275) C dL_addsUp_259 (by decide) (fun c259 => ?_) (fun c259 => ?_)
        · refine a_iconst (v := 1) C dL_addsUp_275 (by decide) ?_
          refine a_goto (tgt := 280) C dL_addsUp_276 (by decide) ?_
          refine a_istore (i := 5) C dL_addsUp_280 (by decide) ?_
          refine a_iinc (i := 9) (v := nI (i + 1)) C dL_addsUp_282 rfl (nI_1 i) (by decide) ?_
          refine a_goto (tgt := 211) C dL_addsUp_285 (by decide) ?_
          refine a_loc [(0, .ref 0), (1, .ref 230), (2, .ref 231), (3, .ref 232), (4, .ref 233), (5, .int 1), (6, .int (nI q)), (7, .long (ysub ((f 11 q).toInt64 - (G q).toInt64) (fun k => (f 22 (24 * k + q)).toInt64) (i + 1))), (9, .int (nI (i + 1)))] (xsub_cons rfl (xsub_cons rfl (xsub_cons rfl (xsub_cons rfl (xsub_cons rfl (xsub_cons rfl (xsub_cons rfl (xsub_cons rfl (xsub_cons rfl (xsub_nil)))))))))) ?_
          exact ih (i + 1) _ _ _ _ (by omega) (by omega) (by omega) (by omega)
        · refine a_aload_n (i := 0) C dL_addsUp_262 rfl rfl ?_
          refine a_iload (i := 9) C dL_addsUp_263 rfl ?_
          refine a_iload (i := 6) C dL_addsUp_265 rfl ?_
          refine a_callSN (na := 3) C hN dL_addsUp_267 ⟨tb739, tb23, tb740, ⟨by decide, by decide, by decide +kernel⟩⟩ tb738 (w_allocated hflags hbs hJ hq) rfl rfl (Nat.le_of_ble_eq_true rfl) ⟨Nat.le_of_ble_eq_true rfl, Nat.le_of_ble_eq_true rfl⟩ ⟨show k + 2 + 2 + 2 ≤ 5600 by omega, show s9 + 12 + 12 + 12 ≤ 33600 by omega⟩ (fun _ h => h.elim) xav_no (fun r267 hp267 hq267 => ?_)
          obtain ⟨rfl, jc267, jr267, rfl⟩ := pP_rd (v' := f 22 (24 * i + q)) hq267 ⟨xin_of hlt (by omega), xin_of hq2 (by omega)⟩ (by rw [nI_clamp (by omega), nI_clamp (by omega)])
          refine a_lconst (v := 0) C dL_addsUp_270 (by decide) ?_
          refine a_lcmp C dL_addsUp_271 ?_
          refine a_if_ne (tgt := 279) C dL_addsUp_272 (by decide) (fun c272 => ?_) (fun c272 => ?_)
          · exact absurd (lcmp_eq.mpr (show (f 22 (24 * i + q)).toInt64 = 0 by rw [hkM.2.2 i q hlt hq2 (fun z => c259 (by rw [hk1 q hq2, hk2 i hlt]; exact z))]; rfl)) c272
          · refine a_iconst (v := 1) C dL_addsUp_275 (by decide) ?_
            refine a_goto (tgt := 280) C dL_addsUp_276 (by decide) ?_
            refine a_istore (i := 5) C dL_addsUp_280 (by decide) ?_
            refine a_iinc (i := 9) (v := nI (i + 1)) C dL_addsUp_282 rfl (nI_1 i) (by decide) ?_
            refine a_goto (tgt := 211) C dL_addsUp_285 (by decide) ?_
            refine a_loc [(0, .ref 0), (1, .ref 230), (2, .ref 231), (3, .ref 232), (4, .ref 233), (5, .int 1), (6, .int (nI q)), (7, .long (ysub ((f 11 q).toInt64 - (G q).toInt64) (fun k => (f 22 (24 * k + q)).toInt64) (i + 1))), (9, .int (nI (i + 1)))] (xsub_cons rfl (xsub_cons rfl (xsub_cons rfl (xsub_cons rfl (xsub_cons rfl (xsub_cons rfl (xsub_cons rfl (xsub_cons rfl (xsub_cons rfl (xsub_nil)))))))))) ?_
            exact ih (i + 1) _ _ _ _ (by omega) (by omega) (by omega) (by omega)
