/-! the law's sums: addsUp -/
def xLa (h : xH) (O G P M : Nat → Int32) : Prop := h 230 = some (.inl (0, 24, .inl O)) ∧ h 231 = some (.inl (0, 24, .inl G)) ∧ h 232 = some (.inl (0, 24, .inl P)) ∧ h 233 = some (.inl (0, 24, .inl M))
theorem x64_le {a b : Int32} : a.toInt64 ≤ b.toInt64 ↔ a ≤ b := by rw [i64_le, i32_le, Int32.toInt_toInt64, Int32.toInt_toInt64]
theorem x64_lt {a b : Int32} : a.toInt64 < b.toInt64 ↔ a < b := by rw [i64_lt, i32_lt, Int32.toInt_toInt64, Int32.toInt_toInt64]
theorem x64_eq {a b : Int32} : a.toInt64 = b.toInt64 ↔ a = b := ⟨fun h => i32_inj (by have := congrArg Int64.toInt h; rw [Int32.toInt_toInt64, Int32.toInt_toInt64] at this; exact this), fun h => by rw [h]⟩
theorem x64_m1 : (-1 : Int32).toInt64 = -1 := by decide
theorem x64_0 : (0 : Int32).toInt64 = 0 := rfl
section KBU
variable {n : Nat → Int32} {f : Nat → Nat → Int32} {g : Nat → Nat → Int64} {nc ni np t q : Nat}
theorem A_l64 (ht : n 1 = nI t) (ht2 : t ≤ 1460) (h : 0 ≤ (f 12 q).toInt ∧ (f 12 q).toInt ≤ 1580) : (n 1).toInt64.toInt = t ∧ (f 12 q).toInt64.toInt = (f 12 q).toInt ∧ (n 1 - f 12 q).toInt = t - (f 12 q).toInt ∧ ((n 1).toInt64 - (f 12 q).toInt64).toInt = t - (f 12 q).toInt := by
  have e1 : (n 1).toInt = t := by rw [ht, nI_toInt (by omega)]
  have e2 : (n 1).toInt64.toInt = t := by rw [Int32.toInt_toInt64, e1]
  have e3 : (f 12 q).toInt64.toInt = (f 12 q).toInt := Int32.toInt_toInt64 _
  exact ⟨e2, e3, by rw [i32_sub (by omega) (by omega), e1], by rw [i64_sub (by omega) (by omega), e2, e3]⟩
theorem xbk_z (l : Int32) : (xbk l).toInt = if l.toInt ≤ 0 then 0 else if l.toInt ≤ 30 then 1 else if l.toInt ≤ 60 then 2 else if l.toInt ≤ 90 then 3 else 4 := by
  have k0 : (0 : Int32).toInt = 0 := rfl
  have k1 : (30 : Int32).toInt = 30 := rfl
  have k2 : (60 : Int32).toInt = 60 := rfl
  have k3 : (90 : Int32).toInt = 90 := rfl
  unfold xbk
  simp only [i32_le, k0, k1, k2, k3]
  split
  · rfl
  split
  · rfl
  split
  · rfl
  split <;> rfl
theorem A_bk0 (ht : n 1 = nI t) (ht2 : t ≤ 1460) (h : 0 ≤ (f 12 q).toInt ∧ (f 12 q).toInt ≤ 1580) (hz : ¬ (f 12 q).toInt64 < (n 1).toInt64) : (xbk (n 1 - f 12 q)).toInt64 = 0 := by
  obtain ⟨e1, e2, e3, e4⟩ := A_l64 ht ht2 h
  rw [i64_lt, e1, e2] at hz
  refine i64_inj ?_
  rw [Int32.toInt_toInt64, xbk_z, e3, if_pos (by omega)]; rfl
theorem A_bk4 (ht : n 1 = nI t) (ht2 : t ≤ 1460) (h : 0 ≤ (f 12 q).toInt ∧ (f 12 q).toInt ≤ 1580) (hz : 90 < (n 1).toInt64 - (f 12 q).toInt64) : (xbk (n 1 - f 12 q)).toInt64 = 4 := by
  obtain ⟨e1, e2, e3, e4⟩ := A_l64 ht ht2 h
  rw [i64_lt, e4, show (90 : Int64).toInt = 90 from rfl] at hz
  refine i64_inj ?_
  rw [Int32.toInt_toInt64, xbk_z, e3, if_neg (by omega), if_neg (by omega), if_neg (by omega), if_neg (by omega)]; rfl
theorem A_bk (ht : n 1 = nI t) (ht2 : t ≤ 1460) (h : 0 ≤ (f 12 q).toInt ∧ (f 12 q).toInt ≤ 1580) (h1 : (f 12 q).toInt64 < (n 1).toInt64) (hz : ¬ 90 < (n 1).toInt64 - (f 12 q).toInt64) : (xbk (n 1 - f 12 q)).toInt64 = ((n 1).toInt64 - (f 12 q).toInt64 + 29) / 30 := by
  obtain ⟨e1, e2, e3, e4⟩ := A_l64 ht ht2 h
  rw [i64_lt, e4, show (90 : Int64).toInt = 90 from rfl] at hz
  rw [i64_lt, e1, e2] at h1
  have k29 : (29 : Int64).toInt = 29 := rfl
  have k30 : (30 : Int64).toInt = 30 := rfl
  have e5 : ((n 1).toInt64 - (f 12 q).toInt64 + 29).toInt = t - (f 12 q).toInt + 29 := by rw [i64_add (by omega) (by omega), e4, k29]
  refine i64_inj ?_
  rw [Int32.toInt_toInt64, xbk_z, e3, i64_div (by omega) (by omega), e5, k30]
  split
  · omega
  split
  · omega
  split
  · omega
  split <;> omega
theorem A_int (hG : JG nc ni np t f g) (ht2 : t ≤ 1460) (h : g 15 q = 0) (hq : q < ni) : xac f g q = 0 := by
  refine i32_inj ?_
  rw [xac_e hG.2.2.2.2 ht2 hq, h, i64_z, Int.zero_ediv]; rfl
theorem A_r64 (ht : n 1 = nI t) (ht2 : t ≤ 1460) (h : 0 ≤ (f 12 q).toInt ∧ (f 12 q).toInt ≤ 1580) : ((f 12 q).toInt64 - (n 1).toInt64 + 1).toInt = (f 12 q).toInt - t + 1 := by
  obtain ⟨e1, e2, e3, e4⟩ := A_l64 ht ht2 h
  have k1 : (1 : Int64).toInt = 1 := rfl
  have s1 := i64_sub (a := (f 12 q).toInt64) (b := (n 1).toInt64) (by omega) (by omega)
  rw [i64_add (by omega) (by omega), s1, e1, e2, k1]
end KBU
abbrev xrm (f : Nat → Nat → Int32) (q : Nat) : Prop := f 17 q < 4 ∧ 0 < f 13 q ∧ f 14 q = 0
theorem xs4 {i : Nat} (h : i < 5) : 0 ≤ nI i ∧ nI i ≤ 4 := ⟨(xle (a := 0) (b := i) (by omega) (by omega)).mpr (Nat.zero_le _), (xle (a := i) (b := 4) (by omega) (by omega)).mpr (by omega)⟩
set_option maxRecDepth 100000 in
set_option maxHeartbeats 4000000 in
theorem p_from {l : Launch} {N0 : Nat} {D : va_G} {dT : Nat → ClassId} (hflags : l.stackTraces = false) {hp : xH} {v lo hi : Int64} (h1 : lo ≤ v) (h2 : v ≤ hi) : xMetP l N0 D dT yL_from cL_from 6 (some FieldType.boolean) 1 0 0 [.long v, .long lo, .long hi] (hp) xNo (fun r h' => r = some (.int 1) ∧ h' = hp) := by
  refine xMetP_of hflags (by decide +kernel) (fun _ _ h => h) (Nat.le_of_ble_eq_true rfl) ?_
  intro E C hN hret
  refine a_loc [(0, .long v), (2, .long lo), (4, .long hi)] (xsub_cons rfl (xsub_cons rfl (xsub_cons rfl (xsub_nil)))) ?_
  refine a_lload_n (i := 0) C dL_from_0 rfl rfl ?_
  refine a_lload_n (i := 2) C dL_from_1 rfl rfl ?_
  refine a_lcmp C dL_from_2 ?_
  refine a_if_lt (tgt := 17) C dL_from_3 (by decide) (fun c3 => ?_) (fun c3 => ?_)
  · exact absurd (lcmp_lt.mp c3) (Int64.not_lt.mpr h1)
  · refine a_lload_n (i := 0) C dL_from_6 rfl rfl ?_
    refine a_lload (i := 4) C dL_from_7 rfl ?_
    refine a_lcmp C dL_from_9 ?_
    refine a_if_gt (tgt := 17) C dL_from_10 (by decide) (fun c10 => ?_) (fun c10 => ?_)
    · exact absurd (lcmp_gt.mp c10) (Int64.not_lt.mpr h2)
    · refine a_iconst (v := 1) C dL_from_13 (by decide) ?_
      refine a_goto (tgt := 18) C dL_from_14 (by decide) ?_
      exact a_zret C dL_from_18 (by first | rfl | exact bI_nar) (Nat.le_of_ble_eq_true rfl) (Nat.le_of_ble_eq_true rfl) (hret _ _ ⟨rfl, rfl⟩)
set_option maxRecDepth 100000 in
set_option maxHeartbeats 4000000 in
theorem au_op {E : xEnv} {l : Launch} {N0 : Nat} {D : va_G} {dT : Nat → ClassId} (hflags : l.stackTraces = false) (C : aC E l N0 D dT cL_addsUp yL_addsUp.cls 14 (some FieldType.boolean) [] (xRm 12 5600 33600) xNo) (hN : xNcE E) {h : xH} {n : Nat → Int32} {f : Nat → Nat → Int32} {g : Nat → Nat → Int64} {nc ni np nl q9 : Nat} {O G P M R : Nat → Int32} (hbs : xBs h) (hJ : JI n f g nc ni np nl q9) (hq : q9 ≤ 500) (hA : xLa h O G P M) (hB : ∀ t, n 1 = nI t → t ≤ 1460 → kB ni t f g) (hK : kK nc ni np nl f g O G P M R) {c : Nat} {KB SB : Nat} (hKB : KB ≤ 5600) (hSB : SB ≤ 33600) (next : ∀ (k s9 : Nat) (jc : Nat → Nat → Int32) (jr : Nat → Int64), k ≤ KB → s9 ≤ SB → aW E k s9 (xC h nc ni np nl (n 1) f g jc jr) 71 [(0, .ref 0), (1, .ref 230), (2, .ref 231), (3, .ref 232), (4, .ref 233), (5, .int 1), (6, .int (nI c)), (7, .long (xsumL (yop f O (nI c)) ni)), (9, .long 0), (11, .long 0)] []) : ∀ (fu i : Nat) (k s9 : Nat) (jc : Nat → Nat → Int32) (jr : Nat → Int64), i ≤ ni → ni < i + fu → k + 1 * (ni - i) ≤ KB → s9 + 6 * (ni - i) ≤ SB → aW E k s9 (xC h nc ni np nl (n 1) f g jc jr) 32 [(0, .ref 0), (1, .ref 230), (2, .ref 231), (3, .ref 232), (4, .ref 233), (5, .int 1), (6, .int (nI c)), (7, .long (xsumL (yop f O (nI c)) i)), (9, .long 0), (11, .long 0), (13, .int (nI i))] [] := by
  have hnl := JI_nl hJ (by omega)
  obtain ⟨hI, ⟨t9, ht, ht2, hG⟩, hLl⟩ := id hJ
  obtain ⟨-, -, -, -, hc6, hi24, hp24, hl16⟩ := id hI
  have hBt := hB t9 ht ht2
  obtain ⟨⟨hkM, hkL, hkV⟩, hk1, hk2, hk3, hk4, hk5, hk6, hk7, hk8⟩ := id hK
  intro fu
  induction fu with
  | zero => intro i k s9 jc jr h1 h2; exact absurd h2 (by omega)
  | succ fu ih =>
    intro i k s9 jc jr h1 h2 hk hs
    refine a_iload (i := 13) C dL_addsUp_32 rfl ?_
    refine a_aload_n (i := 0) C dL_addsUp_34 rfl rfl ?_
    refine a_callV C dL_addsUp_35 cv_X6_invoices tb146 (k_invoices hflags) rfl rfl xC_0 rfl (Nat.le_of_ble_eq_true rfl) ⟨Nat.le_of_ble_eq_true rfl, Nat.le_of_ble_eq_true rfl⟩ ⟨show k + 0 ≤ 5600 by omega, show s9 + 0 ≤ 33600 by omega⟩ (fun _ h => h.elim) xav_no (fun _ _ h => h.elim) (fun r35 hp35 hq35 => ?_)
    obtain ⟨rfl, rfl⟩ := hq35
    refine a_icmp_ge (tgt := 71) C dL_addsUp_38 (by decide) (fun c38 => ?_) (fun c38 => ?_)
    · have hie : i = ni := by
        have := (xle (a := ni) (b := i) (by omega) (by omega)).mp c38
        omega
      rw [hie]
      refine a_loc [(0, .ref 0), (1, .ref 230), (2, .ref 231), (3, .ref 232), (4, .ref 233), (5, .int 1), (6, .int (nI c)), (7, .long (xsumL (yop f O (nI c)) ni)), (9, .long 0), (11, .long 0)] (xsub_cons rfl (xsub_cons rfl (xsub_cons rfl (xsub_cons rfl (xsub_cons rfl (xsub_cons rfl (xsub_cons rfl (xsub_cons rfl (xsub_cons rfl (xsub_cons rfl (xsub_nil))))))))))) ?_
      exact next _ _ _ _ (by omega) (by omega)
    · have hlt : i < ni := by
        rcases Nat.lt_or_ge i ni with q | q
        · exact q
        · exact absurd ((xle (a := ni) (b := i) (by omega) (by omega)).mpr q) c38
      refine a_lload (i := 7) C dL_addsUp_41 rfl ?_
      refine a_aload_n (i := 1) C dL_addsUp_43 rfl rfl ?_
      refine a_iload (i := 13) C dL_addsUp_44 rfl ?_
      refine a_ialdI C dL_addsUp_46 (xC_L hA.1 (by decide)) ⟨by omega, by omega⟩ ?_
      refine a_iload (i := 6) C dL_addsUp_47 rfl ?_
      refine a_icmp_ne (tgt := 61) C dL_addsUp_49 (by decide) (fun c49 => ?_) (fun c49 => ?_)
      · refine a_lconst (v := 0) C dL_addsUp_61 (by decide) ?_
        refine a_ladd C dL_addsUp_62 ?_
        refine a_topl (xsumL (yop f O (nI c)) (i + 1)) (xsumL_s (by first | exact if_neg c49 | exact if_pos c49 | exact if_pos (Classical.not_not.mp c49))) ?_
        refine a_lstore (i := 7) C dL_addsUp_63 (by decide) ?_
        refine a_iinc (i := 13) (v := nI (i + 1)) C dL_addsUp_65 rfl (nI_1 i) (by decide) ?_
        refine a_goto (tgt := 32) C dL_addsUp_68 (by decide) ?_
        refine a_loc [(0, .ref 0), (1, .ref 230), (2, .ref 231), (3, .ref 232), (4, .ref 233), (5, .int 1), (6, .int (nI c)), (7, .long (xsumL (yop f O (nI c)) (i + 1))), (9, .long 0), (11, .long 0), (13, .int (nI (i + 1)))] (xsub_cons rfl (xsub_cons rfl (xsub_cons rfl (xsub_cons rfl (xsub_cons rfl (xsub_cons rfl (xsub_cons rfl (xsub_cons rfl (xsub_cons rfl (xsub_cons rfl (xsub_cons rfl (xsub_nil)))))))))))) ?_
        exact ih (i + 1) _ _ _ _ (by omega) (by omega) (by omega) (by omega)
      · refine a_aload_n (i := 0) C dL_addsUp_52 rfl rfl ?_
        refine a_iload (i := 13) C dL_addsUp_53 rfl ?_
        refine a_callSN (na := 2) C hN dL_addsUp_55 ⟨tb725, tb23, tb726, ⟨by decide, by decide, by decide +kernel⟩⟩ tb724 (w_open hflags hbs hJ hq) rfl rfl (Nat.le_of_ble_eq_true rfl) ⟨Nat.le_of_ble_eq_true rfl, Nat.le_of_ble_eq_true rfl⟩ ⟨show k + 1 ≤ 5600 by omega, show s9 + 6 ≤ 33600 by omega⟩ (fun _ h => h.elim) xav_no (fun r55 hp55 hq55 => ?_)
        obtain ⟨rfl, jc55, jr55, rfl⟩ := pP_rd (v' := f 13 i) hq55 (xin_of hlt (by omega)) (by rw [nI_clamp (by omega)])
        refine a_goto (tgt := 62) C dL_addsUp_58 (by decide) ?_
        refine a_ladd C dL_addsUp_62 ?_
        refine a_topl (xsumL (yop f O (nI c)) (i + 1)) (xsumL_s (by first | exact if_neg c49 | exact if_pos c49 | exact if_pos (Classical.not_not.mp c49))) ?_
        refine a_lstore (i := 7) C dL_addsUp_63 (by decide) ?_
        refine a_iinc (i := 13) (v := nI (i + 1)) C dL_addsUp_65 rfl (nI_1 i) (by decide) ?_
        refine a_goto (tgt := 32) C dL_addsUp_68 (by decide) ?_
        refine a_loc [(0, .ref 0), (1, .ref 230), (2, .ref 231), (3, .ref 232), (4, .ref 233), (5, .int 1), (6, .int (nI c)), (7, .long (xsumL (yop f O (nI c)) (i + 1))), (9, .long 0), (11, .long 0), (13, .int (nI (i + 1)))] (xsub_cons rfl (xsub_cons rfl (xsub_cons rfl (xsub_cons rfl (xsub_cons rfl (xsub_cons rfl (xsub_cons rfl (xsub_cons rfl (xsub_cons rfl (xsub_cons rfl (xsub_cons rfl (xsub_nil)))))))))))) ?_
        exact ih (i + 1) _ _ _ _ (by omega) (by omega) (by omega) (by omega)
set_option maxRecDepth 100000 in
set_option maxHeartbeats 4000000 in
theorem au_re {E : xEnv} {l : Launch} {N0 : Nat} {D : va_G} {dT : Nat → ClassId} (hflags : l.stackTraces = false) (C : aC E l N0 D dT cL_addsUp yL_addsUp.cls 14 (some FieldType.boolean) [] (xRm 12 5600 33600) xNo) (hN : xNcE E) {h : xH} {n : Nat → Int32} {f : Nat → Nat → Int32} {g : Nat → Nat → Int64} {nc ni np nl q9 : Nat} {O G P M R : Nat → Int32} (hbs : xBs h) (hJ : JI n f g nc ni np nl q9) (hq : q9 ≤ 500) (hA : xLa h O G P M) (hB : ∀ t, n 1 = nI t → t ≤ 1460 → kB ni t f g) (hK : kK nc ni np nl f g O G P M R) {c : Nat} {v7 : Int64} {KB SB : Nat} (hKB : KB ≤ 5600) (hSB : SB ≤ 33600) (next : ∀ (k s9 : Nat) (jc : Nat → Nat → Int32) (jr : Nat → Int64), k ≤ KB → s9 ≤ SB → aW E k s9 (xC h nc ni np nl (n 1) f g jc jr) 113 [(0, .ref 0), (1, .ref 230), (2, .ref 231), (3, .ref 232), (4, .ref 233), (5, .int 1), (6, .int (nI c)), (7, .long v7), (9, .long (xsumL (yre f P (nI c)) np)), (11, .long 0)] []) : ∀ (fu i : Nat) (k s9 : Nat) (jc : Nat → Nat → Int32) (jr : Nat → Int64), i ≤ np → np < i + fu → k + 1 * (np - i) ≤ KB → s9 + 6 * (np - i) ≤ SB → aW E k s9 (xC h nc ni np nl (n 1) f g jc jr) 74 [(0, .ref 0), (1, .ref 230), (2, .ref 231), (3, .ref 232), (4, .ref 233), (5, .int 1), (6, .int (nI c)), (7, .long v7), (9, .long (xsumL (yre f P (nI c)) i)), (11, .long 0), (13, .int (nI i))] [] := by
  have hnl := JI_nl hJ (by omega)
  obtain ⟨hI, ⟨t9, ht, ht2, hG⟩, hLl⟩ := id hJ
  obtain ⟨-, -, -, -, hc6, hi24, hp24, hl16⟩ := id hI
  have hBt := hB t9 ht ht2
  obtain ⟨⟨hkM, hkL, hkV⟩, hk1, hk2, hk3, hk4, hk5, hk6, hk7, hk8⟩ := id hK
  intro fu
  induction fu with
  | zero => intro i k s9 jc jr h1 h2; exact absurd h2 (by omega)
  | succ fu ih =>
    intro i k s9 jc jr h1 h2 hk hs
    refine a_iload (i := 13) C dL_addsUp_74 rfl ?_
    refine a_aload_n (i := 0) C dL_addsUp_76 rfl rfl ?_
    refine a_callV C dL_addsUp_77 cv_X6_payments tb150 (k_payments hflags) rfl rfl xC_0 rfl (Nat.le_of_ble_eq_true rfl) ⟨Nat.le_of_ble_eq_true rfl, Nat.le_of_ble_eq_true rfl⟩ ⟨show k + 0 ≤ 5600 by omega, show s9 + 0 ≤ 33600 by omega⟩ (fun _ h => h.elim) xav_no (fun _ _ h => h.elim) (fun r77 hp77 hq77 => ?_)
    obtain ⟨rfl, rfl⟩ := hq77
    refine a_icmp_ge (tgt := 113) C dL_addsUp_80 (by decide) (fun c80 => ?_) (fun c80 => ?_)
    · have hie : i = np := by
        have := (xle (a := np) (b := i) (by omega) (by omega)).mp c80
        omega
      rw [hie]
      refine a_loc [(0, .ref 0), (1, .ref 230), (2, .ref 231), (3, .ref 232), (4, .ref 233), (5, .int 1), (6, .int (nI c)), (7, .long v7), (9, .long (xsumL (yre f P (nI c)) np)), (11, .long 0)] (xsub_cons rfl (xsub_cons rfl (xsub_cons rfl (xsub_cons rfl (xsub_cons rfl (xsub_cons rfl (xsub_cons rfl (xsub_cons rfl (xsub_cons rfl (xsub_cons rfl (xsub_nil))))))))))) ?_
      exact next _ _ _ _ (by omega) (by omega)
    · have hlt : i < np := by
        rcases Nat.lt_or_ge i np with q | q
        · exact q
        · exact absurd ((xle (a := np) (b := i) (by omega) (by omega)).mpr q) c80
      refine a_lload (i := 9) C dL_addsUp_83 rfl ?_
      refine a_aload_n (i := 3) C dL_addsUp_85 rfl rfl ?_
      refine a_iload (i := 13) C dL_addsUp_86 rfl ?_
      refine a_ialdI C dL_addsUp_88 (xC_L hA.2.2.1 (by decide)) ⟨by omega, by omega⟩ ?_
      refine a_iload (i := 6) C dL_addsUp_89 rfl ?_
      refine a_icmp_ne (tgt := 103) C dL_addsUp_91 (by decide) (fun c91 => ?_) (fun c91 => ?_)
      · refine a_lconst (v := 0) C dL_addsUp_103 (by decide) ?_
        refine a_ladd C dL_addsUp_104 ?_
        refine a_topl (xsumL (yre f P (nI c)) (i + 1)) (xsumL_s (by first | exact if_neg c91 | exact if_pos c91 | exact if_pos (Classical.not_not.mp c91))) ?_
        refine a_lstore (i := 9) C dL_addsUp_105 (by decide) ?_
        refine a_iinc (i := 13) (v := nI (i + 1)) C dL_addsUp_107 rfl (nI_1 i) (by decide) ?_
        refine a_goto (tgt := 74) C dL_addsUp_110 (by decide) ?_
        refine a_loc [(0, .ref 0), (1, .ref 230), (2, .ref 231), (3, .ref 232), (4, .ref 233), (5, .int 1), (6, .int (nI c)), (7, .long v7), (9, .long (xsumL (yre f P (nI c)) (i + 1))), (11, .long 0), (13, .int (nI (i + 1)))] (xsub_cons rfl (xsub_cons rfl (xsub_cons rfl (xsub_cons rfl (xsub_cons rfl (xsub_cons rfl (xsub_cons rfl (xsub_cons rfl (xsub_cons rfl (xsub_cons rfl (xsub_cons rfl (xsub_nil)))))))))))) ?_
        exact ih (i + 1) _ _ _ _ (by omega) (by omega) (by omega) (by omega)
      · refine a_aload_n (i := 0) C dL_addsUp_94 rfl rfl ?_
        refine a_iload (i := 13) C dL_addsUp_95 rfl ?_
        refine a_callSN (na := 2) C hN dL_addsUp_97 ⟨tb746, tb23, tb747, ⟨by decide, by decide, by decide +kernel⟩⟩ tb745 (w_unallocated hflags hbs hJ hq) rfl rfl (Nat.le_of_ble_eq_true rfl) ⟨Nat.le_of_ble_eq_true rfl, Nat.le_of_ble_eq_true rfl⟩ ⟨show k + 1 ≤ 5600 by omega, show s9 + 6 ≤ 33600 by omega⟩ (fun _ h => h.elim) xav_no (fun r97 hp97 hq97 => ?_)
        obtain ⟨rfl, jc97, jr97, rfl⟩ := pP_rd (v' := f 20 i) hq97 (xin_of hlt (by omega)) (by rw [nI_clamp (by omega)])
        refine a_goto (tgt := 104) C dL_addsUp_100 (by decide) ?_
        refine a_ladd C dL_addsUp_104 ?_
        refine a_topl (xsumL (yre f P (nI c)) (i + 1)) (xsumL_s (by first | exact if_neg c91 | exact if_pos c91 | exact if_pos (Classical.not_not.mp c91))) ?_
        refine a_lstore (i := 9) C dL_addsUp_105 (by decide) ?_
        refine a_iinc (i := 13) (v := nI (i + 1)) C dL_addsUp_107 rfl (nI_1 i) (by decide) ?_
        refine a_goto (tgt := 74) C dL_addsUp_110 (by decide) ?_
        refine a_loc [(0, .ref 0), (1, .ref 230), (2, .ref 231), (3, .ref 232), (4, .ref 233), (5, .int 1), (6, .int (nI c)), (7, .long v7), (9, .long (xsumL (yre f P (nI c)) (i + 1))), (11, .long 0), (13, .int (nI (i + 1)))] (xsub_cons rfl (xsub_cons rfl (xsub_cons rfl (xsub_cons rfl (xsub_cons rfl (xsub_cons rfl (xsub_cons rfl (xsub_cons rfl (xsub_cons rfl (xsub_cons rfl (xsub_cons rfl (xsub_nil)))))))))))) ?_
        exact ih (i + 1) _ _ _ _ (by omega) (by omega) (by omega) (by omega)
set_option maxRecDepth 100000 in
set_option maxHeartbeats 4000000 in
theorem au_ag {E : xEnv} {l : Launch} {N0 : Nat} {D : va_G} {dT : Nat → ClassId} (hflags : l.stackTraces = false) (C : aC E l N0 D dT cL_addsUp yL_addsUp.cls 14 (some FieldType.boolean) [] (xRm 12 5600 33600) xNo) (hN : xNcE E) {h : xH} {n : Nat → Int32} {f : Nat → Nat → Int32} {g : Nat → Nat → Int64} {nc ni np nl q9 : Nat} {O G P M R : Nat → Int32} (hbs : xBs h) (hJ : JI n f g nc ni np nl q9) (hq : q9 ≤ 500) (hA : xLa h O G P M) (hB : ∀ t, n 1 = nI t → t ≤ 1460 → kB ni t f g) (hK : kK nc ni np nl f g O G P M R) {c : Nat} {v7 v9 : Int64} (hc : c < nc) {KB SB : Nat} (hKB : KB ≤ 5600) (hSB : SB ≤ 33600) (next : ∀ (k s9 : Nat) (jc : Nat → Nat → Int32) (jr : Nat → Int64), k ≤ KB → s9 ≤ SB → aW E k s9 (xC h nc ni np nl (n 1) f g jc jr) 141 [(0, .ref 0), (1, .ref 230), (2, .ref 231), (3, .ref 232), (4, .ref 233), (5, .int 1), (6, .int (nI c)), (7, .long v7), (9, .long v9), (11, .long (xsumL (yage n f (nI c) ni) 5))] []) : ∀ (fu i : Nat) (k s9 : Nat) (jc : Nat → Nat → Int32) (jr : Nat → Int64), i ≤ 5 → 5 < i + fu → k + 2 * (5 - i) ≤ KB → s9 + 12 * (5 - i) ≤ SB → aW E k s9 (xC h nc ni np nl (n 1) f g jc jr) 116 [(0, .ref 0), (1, .ref 230), (2, .ref 231), (3, .ref 232), (4, .ref 233), (5, .int 1), (6, .int (nI c)), (7, .long v7), (9, .long v9), (11, .long (xsumL (yage n f (nI c) ni) i)), (13, .int (nI i))] [] := by
  have hnl := JI_nl hJ (by omega)
  obtain ⟨hI, ⟨t9, ht, ht2, hG⟩, hLl⟩ := id hJ
  obtain ⟨-, -, -, -, hc6, hi24, hp24, hl16⟩ := id hI
  have hBt := hB t9 ht ht2
  obtain ⟨⟨hkM, hkL, hkV⟩, hk1, hk2, hk3, hk4, hk5, hk6, hk7, hk8⟩ := id hK
  intro fu
  induction fu with
  | zero => intro i k s9 jc jr h1 h2; exact absurd h2 (by omega)
  | succ fu ih =>
    intro i k s9 jc jr h1 h2 hk hs
    refine a_iload (i := 13) C dL_addsUp_116 rfl ?_
    refine a_iconst (v := 5) C dL_addsUp_118 (by decide) ?_
    refine a_icmp_ge (tgt := 141) C dL_addsUp_119 (by decide) (fun c119 => ?_) (fun c119 => ?_)
    · have hie : i = 5 := by
        have := (xle (a := 5) (b := i) (by omega) (by omega)).mp c119
        omega
      rw [hie]
      refine a_loc [(0, .ref 0), (1, .ref 230), (2, .ref 231), (3, .ref 232), (4, .ref 233), (5, .int 1), (6, .int (nI c)), (7, .long v7), (9, .long v9), (11, .long (xsumL (yage n f (nI c) ni) 5))] (xsub_cons rfl (xsub_cons rfl (xsub_cons rfl (xsub_cons rfl (xsub_cons rfl (xsub_cons rfl (xsub_cons rfl (xsub_cons rfl (xsub_cons rfl (xsub_cons rfl (xsub_nil))))))))))) ?_
      exact next _ _ _ _ (by omega) (by omega)
    · have hlt : i < 5 := by
        rcases Nat.lt_or_ge i 5 with q | q
        · exact q
        · exact absurd ((xle (a := 5) (b := i) (by omega) (by omega)).mpr q) c119
      refine a_lload (i := 11) C dL_addsUp_122 rfl ?_
      refine a_aload_n (i := 0) C dL_addsUp_124 rfl rfl ?_
      refine a_iload (i := 6) C dL_addsUp_125 rfl ?_
      refine a_iload (i := 13) C dL_addsUp_127 rfl ?_
      refine a_callSN (na := 3) C hN dL_addsUp_129 ⟨tb836, tb23, tb837, ⟨by decide, by decide, by decide +kernel⟩⟩ tb835 (w_ageing hflags hbs hJ hq) rfl rfl (Nat.le_of_ble_eq_true rfl) ⟨Nat.le_of_ble_eq_true rfl, Nat.le_of_ble_eq_true rfl⟩ ⟨show k + 2 ≤ 5600 by omega, show s9 + 12 ≤ 33600 by omega⟩ (fun _ h => h.elim) xav_no (fun r129 hp129 hq129 => ?_)
      obtain ⟨rfl, jc129, jr129, rfl⟩ := pP_rd (v' := xsum (xage n f (nI c) (nI i)) ni) hq129 ⟨xin_of hc (by omega), xs4 hlt⟩ (rfl)
      refine a_ladd C dL_addsUp_132 ?_
      refine a_topl (xsumL (yage n f (nI c) ni) (i + 1)) rfl ?_
      refine a_lstore (i := 11) C dL_addsUp_133 (by decide) ?_
      refine a_iinc (i := 13) (v := nI (i + 1)) C dL_addsUp_135 rfl (nI_1 i) (by decide) ?_
      refine a_goto (tgt := 116) C dL_addsUp_138 (by decide) ?_
      refine a_loc [(0, .ref 0), (1, .ref 230), (2, .ref 231), (3, .ref 232), (4, .ref 233), (5, .int 1), (6, .int (nI c)), (7, .long v7), (9, .long v9), (11, .long (xsumL (yage n f (nI c) ni) (i + 1))), (13, .int (nI (i + 1)))] (xsub_cons rfl (xsub_cons rfl (xsub_cons rfl (xsub_cons rfl (xsub_cons rfl (xsub_cons rfl (xsub_cons rfl (xsub_cons rfl (xsub_cons rfl (xsub_cons rfl (xsub_cons rfl (xsub_nil)))))))))))) ?_
      exact ih (i + 1) _ _ _ _ (by omega) (by omega) (by omega) (by omega)
set_option maxRecDepth 100000 in
set_option maxHeartbeats 4000000 in
theorem au_cust {E : xEnv} {l : Launch} {N0 : Nat} {D : va_G} {dT : Nat → ClassId} (hflags : l.stackTraces = false) (C : aC E l N0 D dT cL_addsUp yL_addsUp.cls 14 (some FieldType.boolean) [] (xRm 12 5600 33600) xNo) (hN : xNcE E) {h : xH} {n : Nat → Int32} {f : Nat → Nat → Int32} {g : Nat → Nat → Int64} {nc ni np nl q9 : Nat} {O G P M R : Nat → Int32} (hbs : xBs h) (hJ : JI n f g nc ni np nl q9) (hq : q9 ≤ 500) (hA : xLa h O G P M) (hB : ∀ t, n 1 = nI t → t ≤ 1460 → kB ni t f g) (hK : kK nc ni np nl f g O G P M R)  {KB SB : Nat} (hKB : KB ≤ 5600) (hSB : SB ≤ 33600) (next : ∀ (k s9 : Nat) (jc : Nat → Nat → Int32) (jr : Nat → Int64), k ≤ KB → s9 ≤ SB → aW E k s9 (xC h nc ni np nl (n 1) f g jc jr) 177 [(0, .ref 0), (1, .ref 230), (2, .ref 231), (3, .ref 232), (4, .ref 233), (5, .int 1)] []) : ∀ (fu i : Nat) (k s9 : Nat) (jc : Nat → Nat → Int32) (jr : Nat → Int64), i ≤ nc → nc < i + fu → k + 59 * (nc - i) ≤ KB → s9 + 354 * (nc - i) ≤ SB → aW E k s9 (xC h nc ni np nl (n 1) f g jc jr) 6 [(0, .ref 0), (1, .ref 230), (2, .ref 231), (3, .ref 232), (4, .ref 233), (5, .int 1), (6, .int (nI i))] [] := by
  have hnl := JI_nl hJ (by omega)
  obtain ⟨hI, ⟨t9, ht, ht2, hG⟩, hLl⟩ := id hJ
  obtain ⟨-, -, -, -, hc6, hi24, hp24, hl16⟩ := id hI
  have hBt := hB t9 ht ht2
  obtain ⟨⟨hkM, hkL, hkV⟩, hk1, hk2, hk3, hk4, hk5, hk6, hk7, hk8⟩ := id hK
  intro fu
  induction fu with
  | zero => intro i k s9 jc jr h1 h2; exact absurd h2 (by omega)
  | succ fu ih =>
    intro i k s9 jc jr h1 h2 hk hs
    refine a_iload (i := 6) C dL_addsUp_6 rfl ?_
    refine a_aload_n (i := 0) C dL_addsUp_8 rfl rfl ?_
    refine a_callV C dL_addsUp_9 cv_X6_customers tb138 (k_customers hflags) rfl rfl xC_0 rfl (Nat.le_of_ble_eq_true rfl) ⟨Nat.le_of_ble_eq_true rfl, Nat.le_of_ble_eq_true rfl⟩ ⟨show k + 0 ≤ 5600 by omega, show s9 + 0 ≤ 33600 by omega⟩ (fun _ h => h.elim) xav_no (fun _ _ h => h.elim) (fun r9 hp9 hq9 => ?_)
    obtain ⟨rfl, rfl⟩ := hq9
    refine a_icmp_ge (tgt := 177) C dL_addsUp_12 (by decide) (fun c12 => ?_) (fun c12 => ?_)
    · have hie : i = nc := by
        have := (xle (a := nc) (b := i) (by omega) (by omega)).mp c12
        omega
      rw [hie]
      refine a_loc [(0, .ref 0), (1, .ref 230), (2, .ref 231), (3, .ref 232), (4, .ref 233), (5, .int 1)] (xsub_cons rfl (xsub_cons rfl (xsub_cons rfl (xsub_cons rfl (xsub_cons rfl (xsub_cons rfl (xsub_nil))))))) ?_
      exact next _ _ _ _ (by omega) (by omega)
    · have hlt : i < nc := by
        rcases Nat.lt_or_ge i nc with q | q
        · exact q
        · exact absurd ((xle (a := nc) (b := i) (by omega) (by omega)).mpr q) c12
      refine a_iload (i := 5) C dL_addsUp_15 rfl ?_
      refine a_if_eq (tgt := 177) C dL_addsUp_17 (by decide) (fun z => absurd z (by decide)) (fun _ => ?_)
      refine a_lconst (v := 0) C dL_addsUp_20 (by decide) ?_
      refine a_lstore (i := 7) C dL_addsUp_21 (by decide) ?_
      refine a_lconst (v := 0) C dL_addsUp_23 (by decide) ?_
      refine a_lstore (i := 9) C dL_addsUp_24 (by decide) ?_
      refine a_lconst (v := 0) C dL_addsUp_26 (by decide) ?_
      refine a_lstore (i := 11) C dL_addsUp_27 (by decide) ?_
      refine a_iconst (v := 0) C dL_addsUp_29 (by decide) ?_
      refine a_istore (i := 13) C dL_addsUp_30 (by decide) ?_
      refine a_loc [(0, .ref 0), (1, .ref 230), (2, .ref 231), (3, .ref 232), (4, .ref 233), (5, .int 1), (6, .int (nI i)), (7, .long (xsumL (yop f O (nI i)) 0)), (9, .long 0), (11, .long 0), (13, .int (nI 0))] (xsub_cons rfl (xsub_cons rfl (xsub_cons rfl (xsub_cons rfl (xsub_cons rfl (xsub_cons rfl (xsub_cons rfl (xsub_cons rfl (xsub_cons rfl (xsub_cons rfl (xsub_cons rfl (xsub_nil)))))))))))) ?_
      refine au_op hflags C hN hbs hJ hq hA hB hK (KB := k + 24) (SB := s9 + 144) (by omega) (by omega) (fun k71 s71 jc71 jr71 hk71 hs71 => ?_) (ni + 1) 0 k s9 _ _ (Nat.zero_le _) (by omega) (by omega) (by omega)
      refine a_iconst (v := 0) C dL_addsUp_71 (by decide) ?_
      refine a_istore (i := 13) C dL_addsUp_72 (by decide) ?_
      refine a_loc [(0, .ref 0), (1, .ref 230), (2, .ref 231), (3, .ref 232), (4, .ref 233), (5, .int 1), (6, .int (nI i)), (7, .long (xsumL (yop f O (nI i)) ni)), (9, .long (xsumL (yre f P (nI i)) 0)), (11, .long 0), (13, .int (nI 0))] (xsub_cons rfl (xsub_cons rfl (xsub_cons rfl (xsub_cons rfl (xsub_cons rfl (xsub_cons rfl (xsub_cons rfl (xsub_cons rfl (xsub_cons rfl (xsub_cons rfl (xsub_cons rfl (xsub_nil)))))))))))) ?_
      refine au_re hflags C hN hbs hJ hq hA hB hK (KB := k71 + 24) (SB := s71 + 144) (by omega) (by omega) (fun k113 s113 jc113 jr113 hk113 hs113 => ?_) (np + 1) 0 k71 s71 _ _ (Nat.zero_le _) (by omega) (by omega) (by omega)
      refine a_iconst (v := 0) C dL_addsUp_113 (by decide) ?_
      refine a_istore (i := 13) C dL_addsUp_114 (by decide) ?_
      refine a_loc [(0, .ref 0), (1, .ref 230), (2, .ref 231), (3, .ref 232), (4, .ref 233), (5, .int 1), (6, .int (nI i)), (7, .long (xsumL (yop f O (nI i)) ni)), (9, .long (xsumL (yre f P (nI i)) np)), (11, .long (xsumL (yage n f (nI i) ni) 0)), (13, .int (nI 0))] (xsub_cons rfl (xsub_cons rfl (xsub_cons rfl (xsub_cons rfl (xsub_cons rfl (xsub_cons rfl (xsub_cons rfl (xsub_cons rfl (xsub_cons rfl (xsub_cons rfl (xsub_cons rfl (xsub_nil)))))))))))) ?_
      refine au_ag hflags C hN hbs hJ hq hA hB hK (KB := k113 + 10) (SB := s113 + 60) (hc := hlt) (by omega) (by omega) (fun k141 s141 jc141 jr141 hk141 hs141 => ?_) (5 + 1) 0 k113 s113 _ _ (Nat.zero_le _) (by omega) (by omega) (by omega)
      refine a_aload_n (i := 0) C dL_addsUp_141 rfl rfl ?_
      refine a_iload (i := 6) C dL_addsUp_142 rfl ?_
      refine a_callSN (na := 2) C hN dL_addsUp_144 ⟨tb879, tb23, tb880, ⟨by decide, by decide, by decide +kernel⟩⟩ tb878 (w_balance hflags hbs hJ hq) rfl rfl (Nat.le_of_ble_eq_true rfl) ⟨Nat.le_of_ble_eq_true rfl, Nat.le_of_ble_eq_true rfl⟩ ⟨show k141 + 1 ≤ 5600 by omega, show s141 + 6 ≤ 33600 by omega⟩ (fun _ h => h.elim) xav_no (fun r144 hp144 hq144 => ?_)
      obtain ⟨rfl, jc144, jr144, rfl⟩ := pP_rd (v' := xbal f (nI i) ni np) hq144 (xin_of hlt (by omega)) (rfl)
      refine a_lload (i := 7) C dL_addsUp_147 rfl ?_
      refine a_lload (i := 9) C dL_addsUp_149 rfl ?_
      refine a_lsub C dL_addsUp_151 ?_
      refine a_lcmp C dL_addsUp_152 ?_
      refine a_if_ne (tgt := 168) C dL_addsUp_153 (by decide) (fun c153 => ?_) (fun c153 => ?_)
      · exact absurd (lcmp_eq.mpr (A_bal hG hBt hk1 hk2 hi24 hp24)) c153
      · refine a_lload (i := 11) C dL_addsUp_156 rfl ?_
        refine a_lload (i := 7) C dL_addsUp_158 rfl ?_
        refine a_lcmp C dL_addsUp_160 ?_
        refine a_if_ne (tgt := 168) C dL_addsUp_161 (by decide) (fun c161 => ?_) (fun c161 => ?_)
        · exact absurd (lcmp_eq.mpr (A_age hG hBt hk1 hi24)) c161
        · refine a_iconst (v := 1) C dL_addsUp_164 (by decide) ?_
          refine a_goto (tgt := 169) C dL_addsUp_165 (by decide) ?_
          refine a_istore (i := 5) C dL_addsUp_169 (by decide) ?_
          refine a_iinc (i := 6) (v := nI (i + 1)) C dL_addsUp_171 rfl (nI_1 i) (by decide) ?_
          refine a_goto (tgt := 6) C dL_addsUp_174 (by decide) ?_
          refine a_loc [(0, .ref 0), (1, .ref 230), (2, .ref 231), (3, .ref 232), (4, .ref 233), (5, .int 1), (6, .int (nI (i + 1)))] (xsub_cons rfl (xsub_cons rfl (xsub_cons rfl (xsub_cons rfl (xsub_cons rfl (xsub_cons rfl (xsub_cons rfl (xsub_nil)))))))) ?_
          exact ih (i + 1) _ _ _ _ (by omega) (by omega) (by omega) (by omega)
set_option maxRecDepth 100000 in
set_option maxHeartbeats 4000000 in
theorem au_cell {E : xEnv} {l : Launch} {N0 : Nat} {D : va_G} {dT : Nat → ClassId} (hflags : l.stackTraces = false) (C : aC E l N0 D dT cL_addsUp yL_addsUp.cls 14 (some FieldType.boolean) [] (xRm 12 5600 33600) xNo) (hN : xNcE E) {h : xH} {n : Nat → Int32} {f : Nat → Nat → Int32} {g : Nat → Nat → Int64} {nc ni np nl q9 : Nat} {O G P M R : Nat → Int32} (hbs : xBs h) (hJ : JI n f g nc ni np nl q9) (hq : q9 ≤ 500) (hA : xLa h O G P M) (hB : ∀ t, n 1 = nI t → t ≤ 1460 → kB ni t f g) (hK : kK nc ni np nl f g O G P M R) {q : Nat} (hq2 : q < ni) {KB SB : Nat} (hKB : KB ≤ 5600) (hSB : SB ≤ 33600) (next : ∀ (k s9 : Nat) (jc : Nat → Nat → Int32) (jr : Nat → Int64), k ≤ KB → s9 ≤ SB → aW E k s9 (xC h nc ni np nl (n 1) f g jc jr) 288 [(0, .ref 0), (1, .ref 230), (2, .ref 231), (3, .ref 232), (4, .ref 233), (5, .int 1), (6, .int (nI q)), (7, .long (f 13 q).toInt64)] []) : ∀ (fu i : Nat) (k s9 : Nat) (jc : Nat → Nat → Int32) (jr : Nat → Int64), i ≤ np → np < i + fu → k + 6 * (np - i) ≤ KB → s9 + 36 * (np - i) ≤ SB → aW E k s9 (xC h nc ni np nl (n 1) f g jc jr) 211 [(0, .ref 0), (1, .ref 230), (2, .ref 231), (3, .ref 232), (4, .ref 233), (5, .int 1), (6, .int (nI q)), (7, .long (ysub ((f 11 q).toInt64 - (G q).toInt64) (fun k => (f 22 (24 * k + q)).toInt64) i)), (9, .int (nI i))] [] := by
  have hnl := JI_nl hJ (by omega)
  obtain ⟨hI, ⟨t9, ht, ht2, hG⟩, hLl⟩ := id hJ
  obtain ⟨-, -, -, -, hc6, hi24, hp24, hl16⟩ := id hI
  have hBt := hB t9 ht ht2
  obtain ⟨⟨hkM, hkL, hkV⟩, hk1, hk2, hk3, hk4, hk5, hk6, hk7, hk8⟩ := id hK
  intro fu
  induction fu with
  | zero => intro i k s9 jc jr h1 h2; exact absurd h2 (by omega)
  | succ fu ih =>
    intro i k s9 jc jr h1 h2 hk hs
    refine a_iload (i := 9) C dL_addsUp_211 rfl ?_
    refine a_aload_n (i := 0) C dL_addsUp_213 rfl rfl ?_
    refine a_callV C dL_addsUp_214 cv_X6_payments tb150 (k_payments hflags) rfl rfl xC_0 rfl (Nat.le_of_ble_eq_true rfl) ⟨Nat.le_of_ble_eq_true rfl, Nat.le_of_ble_eq_true rfl⟩ ⟨show k + 0 ≤ 5600 by omega, show s9 + 0 ≤ 33600 by omega⟩ (fun _ h => h.elim) xav_no (fun _ _ h => h.elim) (fun r214 hp214 hq214 => ?_)
    obtain ⟨rfl, rfl⟩ := hq214
    refine a_icmp_ge (tgt := 288) C dL_addsUp_217 (by decide) (fun c217 => ?_) (fun c217 => ?_)
    · have hie : i = np := by
        have := (xle (a := np) (b := i) (by omega) (by omega)).mp c217
        omega
      rw [hie, A_sub hG hkM hp24 hq2]
      refine a_loc [(0, .ref 0), (1, .ref 230), (2, .ref 231), (3, .ref 232), (4, .ref 233), (5, .int 1), (6, .int (nI q)), (7, .long (f 13 q).toInt64)] (xsub_cons rfl (xsub_cons rfl (xsub_cons rfl (xsub_cons rfl (xsub_cons rfl (xsub_cons rfl (xsub_cons rfl (xsub_cons rfl (xsub_nil))))))))) ?_
      exact next _ _ _ _ (by omega) (by omega)
    · have hlt : i < np := by
        rcases Nat.lt_or_ge i np with q | q
        · exact q
        · exact absurd ((xle (a := np) (b := i) (by omega) (by omega)).mpr q) c217
      refine a_iload (i := 5) C dL_addsUp_220 rfl ?_
      refine a_if_eq (tgt := 288) C dL_addsUp_222 (by decide) (fun z => absurd z (by decide)) (fun _ => ?_)
      refine a_lload (i := 7) C dL_addsUp_225 rfl ?_
      refine a_aload_n (i := 0) C dL_addsUp_227 rfl rfl ?_
      refine a_iload (i := 9) C dL_addsUp_228 rfl ?_
      refine a_iload (i := 6) C dL_addsUp_230 rfl ?_
      refine a_callSN (na := 3) C hN dL_addsUp_232 ⟨tb739, tb23, tb740, ⟨by decide, by decide, by decide +kernel⟩⟩ tb738 (w_allocated hflags hbs hJ hq) rfl rfl (Nat.le_of_ble_eq_true rfl) ⟨Nat.le_of_ble_eq_true rfl, Nat.le_of_ble_eq_true rfl⟩ ⟨show k + 2 ≤ 5600 by omega, show s9 + 12 ≤ 33600 by omega⟩ (fun _ h => h.elim) xav_no (fun r232 hp232 hq232 => ?_)
      obtain ⟨rfl, jc232, jr232, rfl⟩ := pP_rd (v' := f 22 (24 * i + q)) hq232 ⟨xin_of hlt (by omega), xin_of hq2 (by omega)⟩ (by rw [nI_clamp (by omega), nI_clamp (by omega)])
      refine a_lsub C dL_addsUp_235 ?_
      refine a_topl (ysub ((f 11 q).toInt64 - (G q).toInt64) (fun k => (f 22 (24 * k + q)).toInt64) (i + 1)) rfl ?_
      refine a_lstore (i := 7) C dL_addsUp_236 (by decide) ?_
      refine a_aload_n (i := 0) C dL_addsUp_238 rfl rfl ?_
      refine a_iload (i := 9) C dL_addsUp_239 rfl ?_
      refine a_iload (i := 6) C dL_addsUp_241 rfl ?_
      refine a_callSN (na := 3) C hN dL_addsUp_243 ⟨tb739, tb23, tb740, ⟨by decide, by decide, by decide +kernel⟩⟩ tb738 (w_allocated hflags hbs hJ hq) rfl rfl (Nat.le_of_ble_eq_true rfl) ⟨Nat.le_of_ble_eq_true rfl, Nat.le_of_ble_eq_true rfl⟩ ⟨show k + 2 + 2 ≤ 5600 by omega, show s9 + 12 + 12 ≤ 33600 by omega⟩ (fun _ h => h.elim) xav_no (fun r243 hp243 hq243 => ?_)
      obtain ⟨rfl, jc243, jr243, rfl⟩ := pP_rd (v' := f 22 (24 * i + q)) hq243 ⟨xin_of hlt (by omega), xin_of hq2 (by omega)⟩ (by rw [nI_clamp (by omega), nI_clamp (by omega)])
      refine a_lconst (v := 0) C dL_addsUp_246 (by decide) ?_
      refine a_lcmp C dL_addsUp_247 ?_
      refine a_if_lt (tgt := 279) C dL_addsUp_248 (by decide) (fun c248 => ?_) (fun c248 => ?_)
      · exact absurd (lcmp_lt.mp c248) (by rw [← x64_0, x64_lt, i32_lt, i32_z]; exact Int.not_lt.mpr (hG.2.2.2.1.2.2.2.1 i q hlt hq2))
      · refine a_aload_n (i := 1) C dL_addsUp_251 rfl rfl ?_
        refine a_iload (i := 6) C dL_addsUp_252 rfl ?_
        refine a_ialdI C dL_addsUp_254 (xC_L hA.1 (by decide)) ⟨by omega, by omega⟩ ?_
        refine a_aload_n (i := 3) C dL_addsUp_255 rfl rfl ?_
        refine a_iload (i := 9) C dL_addsUp_256 rfl ?_
        refine a_ialdI C dL_addsUp_258 (xC_L hA.2.2.1 (by decide)) ⟨by omega, by omega⟩ ?_
        refine a_icmp_eq (tgt := 275) C dL_addsUp_259 (by decide) (fun c259 => ?_) (fun c259 => ?_)
        · refine a_iconst (v := 1) C dL_addsUp_275 (by decide) ?_
          refine a_goto (tgt := 280) C dL_addsUp_276 (by decide) ?_
          refine a_istore (i := 5) C dL_addsUp_280 (by decide) ?_
          refine a_iinc (i := 9) (v := nI (i + 1)) C dL_addsUp_282 rfl (nI_1 i) (by decide) ?_
          refine a_goto (tgt := 211) C dL_addsUp_285 (by decide) ?_
          refine a_loc [(0, .ref 0), (1, .ref 230), (2, .ref 231), (3, .ref 232), (4, .ref 233), (5, .int 1), (6, .int (nI q)), (7, .long (ysub ((f 11 q).toInt64 - (G q).toInt64) (fun k => (f 22 (24 * k + q)).toInt64) (i + 1))), (9, .int (nI (i + 1)))] (xsub_cons rfl (xsub_cons rfl (xsub_cons rfl (xsub_cons rfl (xsub_cons rfl (xsub_cons rfl (xsub_cons rfl (xsub_cons rfl (xsub_cons rfl (xsub_nil)))))))))) ?_
          exact ih (i + 1) _ _ _ _ (by omega) (by omega) (by omega) (by omega)
        · refine a_aload_n (i := 0) C dL_addsUp_262 rfl rfl ?_
          refine a_iload (i := 9) C dL_addsUp_263 rfl ?_
          refine a_iload (i := 6) C dL_addsUp_265 rfl ?_
          refine a_callSN (na := 3) C hN dL_addsUp_267 ⟨tb739, tb23, tb740, ⟨by decide, by decide, by decide +kernel⟩⟩ tb738 (w_allocated hflags hbs hJ hq) rfl rfl (Nat.le_of_ble_eq_true rfl) ⟨Nat.le_of_ble_eq_true rfl, Nat.le_of_ble_eq_true rfl⟩ ⟨show k + 2 + 2 + 2 ≤ 5600 by omega, show s9 + 12 + 12 + 12 ≤ 33600 by omega⟩ (fun _ h => h.elim) xav_no (fun r267 hp267 hq267 => ?_)
          obtain ⟨rfl, jc267, jr267, rfl⟩ := pP_rd (v' := f 22 (24 * i + q)) hq267 ⟨xin_of hlt (by omega), xin_of hq2 (by omega)⟩ (by rw [nI_clamp (by omega), nI_clamp (by omega)])
          refine a_lconst (v := 0) C dL_addsUp_270 (by decide) ?_
          refine a_lcmp C dL_addsUp_271 ?_
          refine a_if_ne (tgt := 279) C dL_addsUp_272 (by decide) (fun c272 => ?_) (fun c272 => ?_)
          · exact absurd (lcmp_eq.mpr (show (f 22 (24 * i + q)).toInt64 = 0 by rw [hkM.2.2 i q hlt hq2 (fun z => c259 (by rw [hk1 q hq2, hk2 i hlt]; exact z))]; rfl)) c272
          · refine a_iconst (v := 1) C dL_addsUp_275 (by decide) ?_
            refine a_goto (tgt := 280) C dL_addsUp_276 (by decide) ?_
            refine a_istore (i := 5) C dL_addsUp_280 (by decide) ?_
            refine a_iinc (i := 9) (v := nI (i + 1)) C dL_addsUp_282 rfl (nI_1 i) (by decide) ?_
            refine a_goto (tgt := 211) C dL_addsUp_285 (by decide) ?_
            refine a_loc [(0, .ref 0), (1, .ref 230), (2, .ref 231), (3, .ref 232), (4, .ref 233), (5, .int 1), (6, .int (nI q)), (7, .long (ysub ((f 11 q).toInt64 - (G q).toInt64) (fun k => (f 22 (24 * k + q)).toInt64) (i + 1))), (9, .int (nI (i + 1)))] (xsub_cons rfl (xsub_cons rfl (xsub_cons rfl (xsub_cons rfl (xsub_cons rfl (xsub_cons rfl (xsub_cons rfl (xsub_cons rfl (xsub_cons rfl (xsub_nil)))))))))) ?_
            exact ih (i + 1) _ _ _ _ (by omega) (by omega) (by omega) (by omega)
set_option maxRecDepth 100000 in
set_option maxHeartbeats 4000000 in
theorem au_t4 {E : xEnv} {l : Launch} {N0 : Nat} {D : va_G} {dT : Nat → ClassId} (hflags : l.stackTraces = false) (C : aC E l N0 D dT cL_addsUp yL_addsUp.cls 14 (some FieldType.boolean) [] (xRm 12 5600 33600) xNo) (hN : xNcE E) {h : xH} {n : Nat → Int32} {f : Nat → Nat → Int32} {g : Nat → Nat → Int64} {nc ni np nl q9 : Nat} {O G P M R : Nat → Int32} (hbs : xBs h) (hJ : JI n f g nc ni np nl q9) (hq : q9 ≤ 500) (hA : xLa h O G P M) (hB : ∀ t, n 1 = nI t → t ≤ 1460 → kB ni t f g) (hK : kK nc ni np nl f g O G P M R) {q : Nat} (hq2 : q < ni) {k s9 : Nat} {jc : Nat → Nat → Int32} {jr : Nat → Int64} {KB SB : Nat} (hKB : KB ≤ 5600) (hSB : SB ≤ 33600) (next : ∀ (k s9 : Nat) (jc : Nat → Nat → Int32) (jr : Nat → Int64), k ≤ KB → s9 ≤ SB → aW E k s9 (xC h nc ni np nl (n 1) f g jc jr) 571 [(0, .ref 0), (1, .ref 230), (2, .ref 231), (3, .ref 232), (4, .ref 233), (5, .int 1), (6, .int (nI q))] []) (hk : k + 1 ≤ KB) (hs : s9 + 6 ≤ SB) : aW E k s9 (xC h nc ni np nl (n 1) f g jc jr) 553 [(0, .ref 0), (1, .ref 230), (2, .ref 231), (3, .ref 232), (4, .ref 233), (5, .int 1), (6, .int (nI q)), (7, .long (f 13 q).toInt64), (9, .long (f 13 q).toInt64)] [] := by
  have hnl := JI_nl hJ (by omega)
  obtain ⟨hI, ⟨t9, ht, ht2, hG⟩, hLl⟩ := id hJ
  obtain ⟨-, -, -, -, hc6, hi24, hp24, hl16⟩ := id hI
  have hBt := hB t9 ht ht2
  obtain ⟨⟨hkM, hkL, hkV⟩, hk1, hk2, hk3, hk4, hk5, hk6, hk7, hk8⟩ := id hK
  refine a_aload_n (i := 0) C dL_addsUp_553 rfl rfl ?_
  refine a_iload (i := 6) C dL_addsUp_554 rfl ?_
  refine a_callSN (na := 2) C hN dL_addsUp_556 ⟨tb776, tb23, tb777, ⟨by decide, by decide, by decide +kernel⟩⟩ tb775 (w_accrued hflags hbs hJ hq) rfl rfl (Nat.le_of_ble_eq_true rfl) ⟨Nat.le_of_ble_eq_true rfl, Nat.le_of_ble_eq_true rfl⟩ ⟨show k + 1 ≤ 5600 by omega, show s9 + 6 ≤ 33600 by omega⟩ (fun _ h => h.elim) xav_no (fun r556 hp556 hq556 => ?_)
  obtain ⟨rfl, jc556, jr556, rfl⟩ := pP_rd (v' := xac f g q) hq556 (xin_of hq2 (by omega)) (by rw [nI_clamp (by omega)])
  refine a_lconst (v := 0) C dL_addsUp_559 (by decide) ?_
  refine a_lcmp C dL_addsUp_560 ?_
  refine a_if_lt (tgt := 568) C dL_addsUp_561 (by decide) (fun c561 => ?_) (fun c561 => ?_)
  · exact absurd (lcmp_lt.mp c561) (by rw [← x64_0, x64_lt, i32_lt, i32_z]; exact Int.not_lt.mpr (xac_z hG.2.2.2.2 ht2 hq2).1)
  · refine a_iconst (v := 1) C dL_addsUp_564 (by decide) ?_
    refine a_goto (tgt := 569) C dL_addsUp_565 (by decide) ?_
    refine a_istore (i := 5) C dL_addsUp_569 (by decide) ?_
    refine a_loc [(0, .ref 0), (1, .ref 230), (2, .ref 231), (3, .ref 232), (4, .ref 233), (5, .int 1), (6, .int (nI q))] (xsub_cons rfl (xsub_cons rfl (xsub_cons rfl (xsub_cons rfl (xsub_cons rfl (xsub_cons rfl (xsub_cons rfl (xsub_nil)))))))) ?_
    exact next _ _ _ _ (by omega) (by omega)
set_option maxRecDepth 100000 in
set_option maxHeartbeats 4000000 in
theorem au_t3b {E : xEnv} {l : Launch} {N0 : Nat} {D : va_G} {dT : Nat → ClassId} (hflags : l.stackTraces = false) (C : aC E l N0 D dT cL_addsUp yL_addsUp.cls 14 (some FieldType.boolean) [] (xRm 12 5600 33600) xNo) (hN : xNcE E) {h : xH} {n : Nat → Int32} {f : Nat → Nat → Int32} {g : Nat → Nat → Int64} {nc ni np nl q9 : Nat} {O G P M R : Nat → Int32} (hbs : xBs h) (hJ : JI n f g nc ni np nl q9) (hq : q9 ≤ 500) (hA : xLa h O G P M) (hB : ∀ t, n 1 = nI t → t ≤ 1460 → kB ni t f g) (hK : kK nc ni np nl f g O G P M R) {q : Nat} (hq2 : q < ni) {k s9 : Nat} {jc : Nat → Nat → Int32} {jr : Nat → Int64} {KB SB : Nat} (hKB : KB ≤ 5600) (hSB : SB ≤ 33600) (next : ∀ (k s9 : Nat) (jc : Nat → Nat → Int32) (jr : Nat → Int64), k ≤ KB → s9 ≤ SB → aW E k s9 (xC h nc ni np nl (n 1) f g jc jr) 571 [(0, .ref 0), (1, .ref 230), (2, .ref 231), (3, .ref 232), (4, .ref 233), (5, .int 1), (6, .int (nI q))] []) (hk : k + 3 ≤ KB) (hs : s9 + 18 ≤ SB) : aW E k s9 (xC h nc ni np nl (n 1) f g jc jr) 531 [(0, .ref 0), (1, .ref 230), (2, .ref 231), (3, .ref 232), (4, .ref 233), (5, .int 1), (6, .int (nI q)), (7, .long (f 13 q).toInt64), (9, .long (f 13 q).toInt64)] [] := by
  have hnl := JI_nl hJ (by omega)
  obtain ⟨hI, ⟨t9, ht, ht2, hG⟩, hLl⟩ := id hJ
  obtain ⟨-, -, -, -, hc6, hi24, hp24, hl16⟩ := id hI
  have hBt := hB t9 ht ht2
  obtain ⟨⟨hkM, hkL, hkV⟩, hk1, hk2, hk3, hk4, hk5, hk6, hk7, hk8⟩ := id hK
  refine a_aload_n (i := 0) C dL_addsUp_531 rfl rfl ?_
  refine a_iload (i := 6) C dL_addsUp_532 rfl ?_
  refine a_callSN (na := 2) C hN dL_addsUp_534 ⟨tb711, tb23, tb712, ⟨by decide, by decide, by decide +kernel⟩⟩ tb710 (w_interest hflags hbs hJ hq) rfl rfl (Nat.le_of_ble_eq_true rfl) ⟨Nat.le_of_ble_eq_true rfl, Nat.le_of_ble_eq_true rfl⟩ ⟨show k + 1 ≤ 5600 by omega, show s9 + 6 ≤ 33600 by omega⟩ (fun _ h => h.elim) xav_no (fun r534 hp534 hq534 => ?_)
  obtain ⟨rfl, jc534, jr534, rfl⟩ := pP_rd (v' := bI (¬ f 16 q = 0)) hq534 (xin_of hq2 (by omega)) (by rw [nI_clamp (by omega)])
  refine a_lconst (v := 0) C dL_addsUp_537 (by decide) ?_
  refine a_lcmp C dL_addsUp_538 ?_
  refine a_if_eq (tgt := 553) C dL_addsUp_539 (by decide) (fun c539 => ?_) (fun c539 => ?_)
  · refine a_loc [(0, .ref 0), (1, .ref 230), (2, .ref 231), (3, .ref 232), (4, .ref 233), (5, .int 1), (6, .int (nI q)), (7, .long (f 13 q).toInt64), (9, .long (f 13 q).toInt64)] (xsub_cons rfl (xsub_cons rfl (xsub_cons rfl (xsub_cons rfl (xsub_cons rfl (xsub_cons rfl (xsub_cons rfl (xsub_cons rfl (xsub_cons rfl (xsub_nil)))))))))) ?_
    exact au_t4 hflags C hN hbs hJ hq hA hB hK hq2 hKB hSB next (by omega) (by omega)
  · refine a_aload_n (i := 0) C dL_addsUp_542 rfl rfl ?_
    refine a_iload (i := 6) C dL_addsUp_543 rfl ?_
    refine a_callSN (na := 2) C hN dL_addsUp_545 ⟨tb776, tb23, tb777, ⟨by decide, by decide, by decide +kernel⟩⟩ tb775 (w_accrued hflags hbs hJ hq) rfl rfl (Nat.le_of_ble_eq_true rfl) ⟨Nat.le_of_ble_eq_true rfl, Nat.le_of_ble_eq_true rfl⟩ ⟨show k + 1 + 1 ≤ 5600 by omega, show s9 + 6 + 6 ≤ 33600 by omega⟩ (fun _ h => h.elim) xav_no (fun r545 hp545 hq545 => ?_)
    obtain ⟨rfl, jc545, jr545, rfl⟩ := pP_rd (v' := xac f g q) hq545 (xin_of hq2 (by omega)) (by rw [nI_clamp (by omega)])
    refine a_lconst (v := 0) C dL_addsUp_548 (by decide) ?_
    refine a_lcmp C dL_addsUp_549 ?_
    refine a_if_ne (tgt := 568) C dL_addsUp_550 (by decide) (fun c550 => ?_) (fun c550 => ?_)
    · exact absurd (lcmp_eq.mpr (show (xac f g q).toInt64 = 0 by rw [A_int hG ht2 (hk7 q hq2 (fun z => c539 (lcmp_eq.mpr (by rw [bI_f (fun y => y z)]; rfl)))) hq2]; rfl)) c550
    · refine a_loc [(0, .ref 0), (1, .ref 230), (2, .ref 231), (3, .ref 232), (4, .ref 233), (5, .int 1), (6, .int (nI q)), (7, .long (f 13 q).toInt64), (9, .long (f 13 q).toInt64)] (xsub_cons rfl (xsub_cons rfl (xsub_cons rfl (xsub_cons rfl (xsub_cons rfl (xsub_cons rfl (xsub_cons rfl (xsub_cons rfl (xsub_cons rfl (xsub_nil)))))))))) ?_
      exact au_t4 hflags C hN hbs hJ hq hA hB hK hq2 hKB hSB next (by omega) (by omega)
set_option maxRecDepth 100000 in
set_option maxHeartbeats 4000000 in
theorem au_t3 {E : xEnv} {l : Launch} {N0 : Nat} {D : va_G} {dT : Nat → ClassId} (hflags : l.stackTraces = false) (C : aC E l N0 D dT cL_addsUp yL_addsUp.cls 14 (some FieldType.boolean) [] (xRm 12 5600 33600) xNo) (hN : xNcE E) {h : xH} {n : Nat → Int32} {f : Nat → Nat → Int32} {g : Nat → Nat → Int64} {nc ni np nl q9 : Nat} {O G P M R : Nat → Int32} (hbs : xBs h) (hJ : JI n f g nc ni np nl q9) (hq : q9 ≤ 500) (hA : xLa h O G P M) (hB : ∀ t, n 1 = nI t → t ≤ 1460 → kB ni t f g) (hK : kK nc ni np nl f g O G P M R) {q : Nat} (hq2 : q < ni) {k s9 : Nat} {jc : Nat → Nat → Int32} {jr : Nat → Int64} {KB SB : Nat} (hKB : KB ≤ 5600) (hSB : SB ≤ 33600) (next : ∀ (k s9 : Nat) (jc : Nat → Nat → Int32) (jr : Nat → Int64), k ≤ KB → s9 ≤ SB → aW E k s9 (xC h nc ni np nl (n 1) f g jc jr) 571 [(0, .ref 0), (1, .ref 230), (2, .ref 231), (3, .ref 232), (4, .ref 233), (5, .int 1), (6, .int (nI q))] []) (hk : k + 7 ≤ KB) (hs : s9 + 42 ≤ SB) : aW E k s9 (xC h nc ni np nl (n 1) f g jc jr) 457 [(0, .ref 0), (1, .ref 230), (2, .ref 231), (3, .ref 232), (4, .ref 233), (5, .int 1), (6, .int (nI q)), (7, .long (f 13 q).toInt64), (9, .long (f 13 q).toInt64)] [] := by
  have hnl := JI_nl hJ (by omega)
  obtain ⟨hI, ⟨t9, ht, ht2, hG⟩, hLl⟩ := id hJ
  obtain ⟨-, -, -, -, hc6, hi24, hp24, hl16⟩ := id hI
  have hBt := hB t9 ht ht2
  obtain ⟨⟨hkM, hkL, hkV⟩, hk1, hk2, hk3, hk4, hk5, hk6, hk7, hk8⟩ := id hK
  refine a_aload_n (i := 0) C dL_addsUp_457 rfl rfl ?_
  refine a_iload (i := 6) C dL_addsUp_458 rfl ?_
  refine a_callSN (na := 2) C hN dL_addsUp_460 ⟨tb911, tb23, tb912, ⟨by decide, by decide, by decide +kernel⟩⟩ tb910 (w_bucket hflags hbs hJ hq) rfl rfl (Nat.le_of_ble_eq_true rfl) ⟨Nat.le_of_ble_eq_true rfl, Nat.le_of_ble_eq_true rfl⟩ ⟨show k + 1 ≤ 5600 by omega, show s9 + 6 ≤ 33600 by omega⟩ (fun _ h => h.elim) xav_no (fun r460 hp460 hq460 => ?_)
  obtain ⟨rfl, jc460, jr460, rfl⟩ := pP_rd (v' := xbk (n 1 - f 12 q)) hq460 (xin_of hq2 (by omega)) (by rw [nI_clamp (by omega)])
  refine a_aload_n (i := 0) C dL_addsUp_463 rfl rfl ?_
  refine a_callV C dL_addsUp_464 cv_X6_today tb134 (k_today hflags) rfl rfl xC_0 rfl (Nat.le_of_ble_eq_true rfl) ⟨Nat.le_of_ble_eq_true rfl, Nat.le_of_ble_eq_true rfl⟩ ⟨show k + 1 + 0 ≤ 5600 by omega, show s9 + 6 + 0 ≤ 33600 by omega⟩ (fun _ h => h.elim) xav_no (fun _ _ h => h.elim) (fun r464 hp464 hq464 => ?_)
  obtain ⟨rfl, rfl⟩ := hq464
  refine a_i2l C dL_addsUp_467 ?_
  refine a_aload_n (i := 0) C dL_addsUp_468 rfl rfl ?_
  refine a_iload (i := 6) C dL_addsUp_469 rfl ?_
  refine a_callSN (na := 2) C hN dL_addsUp_471 ⟨tb903, tb23, tb904, ⟨by decide, by decide, by decide +kernel⟩⟩ tb902 (w_due hflags hbs hJ hq) rfl rfl (Nat.le_of_ble_eq_true rfl) ⟨Nat.le_of_ble_eq_true rfl, Nat.le_of_ble_eq_true rfl⟩ ⟨show k + 1 + 1 ≤ 5600 by omega, show s9 + 6 + 6 ≤ 33600 by omega⟩ (fun _ h => h.elim) xav_no (fun r471 hp471 hq471 => ?_)
  obtain ⟨rfl, jc471, jr471, rfl⟩ := pP_rd (v' := f 12 q) hq471 (xin_of hq2 (by omega)) (by rw [nI_clamp (by omega)])
  refine a_lcmp C dL_addsUp_474 ?_
  refine a_if_gt (tgt := 482) C dL_addsUp_475 (by decide) (fun c475 => ?_) (fun c475 => ?_)
  · refine a_aload_n (i := 0) C dL_addsUp_482 rfl rfl ?_
    refine a_callV C dL_addsUp_483 cv_X6_today tb134 (k_today hflags) rfl rfl xC_0 rfl (Nat.le_of_ble_eq_true rfl) ⟨Nat.le_of_ble_eq_true rfl, Nat.le_of_ble_eq_true rfl⟩ ⟨show k + 1 + 1 + 0 ≤ 5600 by omega, show s9 + 6 + 6 + 0 ≤ 33600 by omega⟩ (fun _ h => h.elim) xav_no (fun _ _ h => h.elim) (fun r483 hp483 hq483 => ?_)
    obtain ⟨rfl, rfl⟩ := hq483
    refine a_i2l C dL_addsUp_486 ?_
    refine a_aload_n (i := 0) C dL_addsUp_487 rfl rfl ?_
    refine a_iload (i := 6) C dL_addsUp_488 rfl ?_
    refine a_callSN (na := 2) C hN dL_addsUp_490 ⟨tb903, tb23, tb904, ⟨by decide, by decide, by decide +kernel⟩⟩ tb902 (w_due hflags hbs hJ hq) rfl rfl (Nat.le_of_ble_eq_true rfl) ⟨Nat.le_of_ble_eq_true rfl, Nat.le_of_ble_eq_true rfl⟩ ⟨show k + 1 + 1 + 1 ≤ 5600 by omega, show s9 + 6 + 6 + 6 ≤ 33600 by omega⟩ (fun _ h => h.elim) xav_no (fun r490 hp490 hq490 => ?_)
    obtain ⟨rfl, jc490, jr490, rfl⟩ := pP_rd (v' := f 12 q) hq490 (xin_of hq2 (by omega)) (by rw [nI_clamp (by omega)])
    refine a_lsub C dL_addsUp_493 ?_
    refine a_ldc2 C dL_addsUp_494 tb917 ?_
    refine a_lcmp C dL_addsUp_497 ?_
    refine a_if_le (tgt := 507) C dL_addsUp_498 (by decide) (fun c498 => ?_) (fun c498 => ?_)
    · refine a_aload_n (i := 0) C dL_addsUp_507 rfl rfl ?_
      refine a_callV C dL_addsUp_508 cv_X6_today tb134 (k_today hflags) rfl rfl xC_0 rfl (Nat.le_of_ble_eq_true rfl) ⟨Nat.le_of_ble_eq_true rfl, Nat.le_of_ble_eq_true rfl⟩ ⟨show k + 1 + 1 + 1 + 0 ≤ 5600 by omega, show s9 + 6 + 6 + 6 + 0 ≤ 33600 by omega⟩ (fun _ h => h.elim) xav_no (fun _ _ h => h.elim) (fun r508 hp508 hq508 => ?_)
      obtain ⟨rfl, rfl⟩ := hq508
      refine a_i2l C dL_addsUp_511 ?_
      refine a_aload_n (i := 0) C dL_addsUp_512 rfl rfl ?_
      refine a_iload (i := 6) C dL_addsUp_513 rfl ?_
      refine a_callSN (na := 2) C hN dL_addsUp_515 ⟨tb903, tb23, tb904, ⟨by decide, by decide, by decide +kernel⟩⟩ tb902 (w_due hflags hbs hJ hq) rfl rfl (Nat.le_of_ble_eq_true rfl) ⟨Nat.le_of_ble_eq_true rfl, Nat.le_of_ble_eq_true rfl⟩ ⟨show k + 1 + 1 + 1 + 1 ≤ 5600 by omega, show s9 + 6 + 6 + 6 + 6 ≤ 33600 by omega⟩ (fun _ h => h.elim) xav_no (fun r515 hp515 hq515 => ?_)
      obtain ⟨rfl, jc515, jr515, rfl⟩ := pP_rd (v' := f 12 q) hq515 (xin_of hq2 (by omega)) (by rw [nI_clamp (by omega)])
      refine a_lsub C dL_addsUp_518 ?_
      refine a_ldc2 C dL_addsUp_519 tb918 ?_
      refine a_ladd C dL_addsUp_522 ?_
      refine a_ldc2 C dL_addsUp_523 tb919 ?_
      refine a_ldiv C dL_addsUp_526 (by decide) ?_
      refine a_lcmp C dL_addsUp_527 ?_
      refine a_if_ne (tgt := 568) C dL_addsUp_528 (by decide) (fun c528 => ?_) (fun c528 => ?_)
      · exact (by first | exact absurd (lcmp_eq.mpr (A_bk0 ht ht2 (hk5 q hq2) (mt lcmp_gt.mpr c475))) c528 | exact absurd (lcmp_eq.mpr (A_bk4 ht ht2 (hk5 q hq2) (Classical.not_not.mp (mt lcmp_le.mpr c498)))) c528 | exact absurd (lcmp_eq.mpr (A_bk ht ht2 (hk5 q hq2) (lcmp_gt.mp c475) (lcmp_le.mp c498))) c528)
      · refine a_loc [(0, .ref 0), (1, .ref 230), (2, .ref 231), (3, .ref 232), (4, .ref 233), (5, .int 1), (6, .int (nI q)), (7, .long (f 13 q).toInt64), (9, .long (f 13 q).toInt64)] (xsub_cons rfl (xsub_cons rfl (xsub_cons rfl (xsub_cons rfl (xsub_cons rfl (xsub_cons rfl (xsub_cons rfl (xsub_cons rfl (xsub_cons rfl (xsub_nil)))))))))) ?_
        exact au_t3b hflags C hN hbs hJ hq hA hB hK hq2 hKB hSB next (by omega) (by omega)
    · refine a_ldc2 C dL_addsUp_501 tb885 ?_
      refine a_goto (tgt := 527) C dL_addsUp_504 (by decide) ?_
      refine a_lcmp C dL_addsUp_527 ?_
      refine a_if_ne (tgt := 568) C dL_addsUp_528 (by decide) (fun c528 => ?_) (fun c528 => ?_)
      · exact (by first | exact absurd (lcmp_eq.mpr (A_bk0 ht ht2 (hk5 q hq2) (mt lcmp_gt.mpr c475))) c528 | exact absurd (lcmp_eq.mpr (A_bk4 ht ht2 (hk5 q hq2) (Classical.not_not.mp (mt lcmp_le.mpr c498)))) c528 | exact absurd (lcmp_eq.mpr (A_bk ht ht2 (hk5 q hq2) (lcmp_gt.mp c475) (lcmp_le.mp c498))) c528)
      · refine a_loc [(0, .ref 0), (1, .ref 230), (2, .ref 231), (3, .ref 232), (4, .ref 233), (5, .int 1), (6, .int (nI q)), (7, .long (f 13 q).toInt64), (9, .long (f 13 q).toInt64)] (xsub_cons rfl (xsub_cons rfl (xsub_cons rfl (xsub_cons rfl (xsub_cons rfl (xsub_cons rfl (xsub_cons rfl (xsub_cons rfl (xsub_cons rfl (xsub_nil)))))))))) ?_
        exact au_t3b hflags C hN hbs hJ hq hA hB hK hq2 hKB hSB next (by omega) (by omega)
  · refine a_lconst (v := 0) C dL_addsUp_478 (by decide) ?_
    refine a_goto (tgt := 527) C dL_addsUp_479 (by decide) ?_
    refine a_lcmp C dL_addsUp_527 ?_
    refine a_if_ne (tgt := 568) C dL_addsUp_528 (by decide) (fun c528 => ?_) (fun c528 => ?_)
    · exact (by first | exact absurd (lcmp_eq.mpr (A_bk0 ht ht2 (hk5 q hq2) (mt lcmp_gt.mpr c475))) c528 | exact absurd (lcmp_eq.mpr (A_bk4 ht ht2 (hk5 q hq2) (Classical.not_not.mp (mt lcmp_le.mpr c498)))) c528 | exact absurd (lcmp_eq.mpr (A_bk ht ht2 (hk5 q hq2) (lcmp_gt.mp c475) (lcmp_le.mp c498))) c528)
    · refine a_loc [(0, .ref 0), (1, .ref 230), (2, .ref 231), (3, .ref 232), (4, .ref 233), (5, .int 1), (6, .int (nI q)), (7, .long (f 13 q).toInt64), (9, .long (f 13 q).toInt64)] (xsub_cons rfl (xsub_cons rfl (xsub_cons rfl (xsub_cons rfl (xsub_cons rfl (xsub_cons rfl (xsub_cons rfl (xsub_cons rfl (xsub_cons rfl (xsub_nil)))))))))) ?_
      exact au_t3b hflags C hN hbs hJ hq hA hB hK hq2 hKB hSB next (by omega) (by omega)
set_option maxRecDepth 100000 in
set_option maxHeartbeats 4000000 in
theorem au_t2 {E : xEnv} {l : Launch} {N0 : Nat} {D : va_G} {dT : Nat → ClassId} (hflags : l.stackTraces = false) (C : aC E l N0 D dT cL_addsUp yL_addsUp.cls 14 (some FieldType.boolean) [] (xRm 12 5600 33600) xNo) (hN : xNcE E) {h : xH} {n : Nat → Int32} {f : Nat → Nat → Int32} {g : Nat → Nat → Int64} {nc ni np nl q9 : Nat} {O G P M R : Nat → Int32} (hbs : xBs h) (hJ : JI n f g nc ni np nl q9) (hq : q9 ≤ 500) (hA : xLa h O G P M) (hB : ∀ t, n 1 = nI t → t ≤ 1460 → kB ni t f g) (hK : kK nc ni np nl f g O G P M R) {q : Nat} (hq2 : q < ni) {k s9 : Nat} {jc : Nat → Nat → Int32} {jr : Nat → Int64} {rm : Int32} {KB SB : Nat} (hKB : KB ≤ 5600) (hSB : SB ≤ 33600) (next : ∀ (k s9 : Nat) (jc : Nat → Nat → Int32) (jr : Nat → Int64), k ≤ KB → s9 ≤ SB → aW E k s9 (xC h nc ni np nl (n 1) f g jc jr) 571 [(0, .ref 0), (1, .ref 230), (2, .ref 231), (3, .ref 232), (4, .ref 233), (5, .int 1), (6, .int (nI q))] []) (hk : k + 11 ≤ KB) (hs : s9 + 66 ≤ SB) (hR : (rm = 1 ∧ xrm f q) ∨ (rm = 0 ∧ ¬ xrm f q)) : aW E k s9 (xC h nc ni np nl (n 1) f g jc jr) 401 [(0, .ref 0), (1, .ref 230), (2, .ref 231), (3, .ref 232), (4, .ref 233), (5, .int 1), (6, .int (nI q)), (7, .long (f 13 q).toInt64), (9, .long (f 13 q).toInt64), (11, .int rm)] [] := by
  have hnl := JI_nl hJ (by omega)
  obtain ⟨hI, ⟨t9, ht, ht2, hG⟩, hLl⟩ := id hJ
  obtain ⟨-, -, -, -, hc6, hi24, hp24, hl16⟩ := id hI
  have hBt := hB t9 ht ht2
  obtain ⟨⟨hkM, hkL, hkV⟩, hk1, hk2, hk3, hk4, hk5, hk6, hk7, hk8⟩ := id hK
  refine a_iload (i := 11) C dL_addsUp_401 rfl ?_
  refine a_if_eq (tgt := 444) C dL_addsUp_403 (by decide) (fun c403 => ?_) (fun c403 => ?_)
  · refine a_aload_n (i := 0) C dL_addsUp_444 rfl rfl ?_
    refine a_iload (i := 6) C dL_addsUp_445 rfl ?_
    refine a_callSN (na := 2) C hN dL_addsUp_447 ⟨tb753, tb23, tb754, ⟨by decide, by decide, by decide +kernel⟩⟩ tb752 (w_toReminder hflags hbs hJ hq) rfl rfl (Nat.le_of_ble_eq_true rfl) ⟨Nat.le_of_ble_eq_true rfl, Nat.le_of_ble_eq_true rfl⟩ ⟨show k + 1 ≤ 5600 by omega, show s9 + 6 ≤ 33600 by omega⟩ (fun _ h => h.elim) xav_no (fun r447 hp447 hq447 => ?_)
    obtain ⟨rfl, jc447, jr447, rfl⟩ := pP_rd (v' := xdr n f q) hq447 (xin_of hq2 (by omega)) (by rw [nI_clamp (by omega)])
    refine a_ldc2 C dL_addsUp_450 tb909 ?_
    refine a_lcmp C dL_addsUp_453 ?_
    refine a_if_ne (tgt := 568) C dL_addsUp_454 (by decide) (fun c454 => ?_) (fun c454 => ?_)
    · exact absurd (lcmp_eq.mpr (show (xdr n f q).toInt64 = -1 by unfold xdr; rw [if_pos (hR.elim (fun y => absurd (y.1.symm.trans c403) (by decide)) (fun y => y.2))]; exact x64_m1)) c454
    · refine a_loc [(0, .ref 0), (1, .ref 230), (2, .ref 231), (3, .ref 232), (4, .ref 233), (5, .int 1), (6, .int (nI q)), (7, .long (f 13 q).toInt64), (9, .long (f 13 q).toInt64)] (xsub_cons rfl (xsub_cons rfl (xsub_cons rfl (xsub_cons rfl (xsub_cons rfl (xsub_cons rfl (xsub_cons rfl (xsub_cons rfl (xsub_cons rfl (xsub_nil)))))))))) ?_
      exact au_t3 hflags C hN hbs hJ hq hA hB hK hq2 hKB hSB next (by omega) (by omega)
  · refine a_aload_n (i := 0) C dL_addsUp_406 rfl rfl ?_
    refine a_iload (i := 6) C dL_addsUp_407 rfl ?_
    refine a_callSN (na := 2) C hN dL_addsUp_409 ⟨tb753, tb23, tb754, ⟨by decide, by decide, by decide +kernel⟩⟩ tb752 (w_toReminder hflags hbs hJ hq) rfl rfl (Nat.le_of_ble_eq_true rfl) ⟨Nat.le_of_ble_eq_true rfl, Nat.le_of_ble_eq_true rfl⟩ ⟨show k + 1 ≤ 5600 by omega, show s9 + 6 ≤ 33600 by omega⟩ (fun _ h => h.elim) xav_no (fun r409 hp409 hq409 => ?_)
    obtain ⟨rfl, jc409, jr409, rfl⟩ := pP_rd (v' := xdr n f q) hq409 (xin_of hq2 (by omega)) (by rw [nI_clamp (by omega)])
    refine a_lconst (v := 1) C dL_addsUp_412 (by decide) ?_
    refine a_lcmp C dL_addsUp_413 ?_
    refine a_if_lt (tgt := 568) C dL_addsUp_414 (by decide) (fun c414 => ?_) (fun c414 => ?_)
    · exact absurd (lcmp_lt.mp c414) (by rw [i64_lt, Int32.toInt_toInt64, show (1 : Int64).toInt = 1 from rfl]; exact Int.not_lt.mpr (A_rem hG ht ht2 hc6 hk5 hk6 hq2 (hR.elim (fun y => y.2) (fun y => absurd y.1 c403))).1)
    · refine a_aload_n (i := 0) C dL_addsUp_417 rfl rfl ?_
      refine a_iload (i := 6) C dL_addsUp_418 rfl ?_
      refine a_callSN (na := 2) C hN dL_addsUp_420 ⟨tb753, tb23, tb754, ⟨by decide, by decide, by decide +kernel⟩⟩ tb752 (w_toReminder hflags hbs hJ hq) rfl rfl (Nat.le_of_ble_eq_true rfl) ⟨Nat.le_of_ble_eq_true rfl, Nat.le_of_ble_eq_true rfl⟩ ⟨show k + 1 + 1 ≤ 5600 by omega, show s9 + 6 + 6 ≤ 33600 by omega⟩ (fun _ h => h.elim) xav_no (fun r420 hp420 hq420 => ?_)
      obtain ⟨rfl, jc420, jr420, rfl⟩ := pP_rd (v' := xdr n f q) hq420 (xin_of hq2 (by omega)) (by rw [nI_clamp (by omega)])
      refine a_aload_n (i := 0) C dL_addsUp_423 rfl rfl ?_
      refine a_iload (i := 6) C dL_addsUp_424 rfl ?_
      refine a_callSN (na := 2) C hN dL_addsUp_426 ⟨tb903, tb23, tb904, ⟨by decide, by decide, by decide +kernel⟩⟩ tb902 (w_due hflags hbs hJ hq) rfl rfl (Nat.le_of_ble_eq_true rfl) ⟨Nat.le_of_ble_eq_true rfl, Nat.le_of_ble_eq_true rfl⟩ ⟨show k + 1 + 1 + 1 ≤ 5600 by omega, show s9 + 6 + 6 + 6 ≤ 33600 by omega⟩ (fun _ h => h.elim) xav_no (fun r426 hp426 hq426 => ?_)
      obtain ⟨rfl, jc426, jr426, rfl⟩ := pP_rd (v' := f 12 q) hq426 (xin_of hq2 (by omega)) (by rw [nI_clamp (by omega)])
      refine a_aload_n (i := 0) C dL_addsUp_429 rfl rfl ?_
      refine a_callV C dL_addsUp_430 cv_X6_today tb134 (k_today hflags) rfl rfl xC_0 rfl (Nat.le_of_ble_eq_true rfl) ⟨Nat.le_of_ble_eq_true rfl, Nat.le_of_ble_eq_true rfl⟩ ⟨show k + 1 + 1 + 1 + 0 ≤ 5600 by omega, show s9 + 6 + 6 + 6 + 0 ≤ 33600 by omega⟩ (fun _ h => h.elim) xav_no (fun _ _ h => h.elim) (fun r430 hp430 hq430 => ?_)
      obtain ⟨rfl, rfl⟩ := hq430
      refine a_i2l C dL_addsUp_433 ?_
      refine a_lsub C dL_addsUp_434 ?_
      refine a_lconst (v := 1) C dL_addsUp_435 (by decide) ?_
      refine a_ladd C dL_addsUp_436 ?_
      refine a_lcmp C dL_addsUp_437 ?_
      refine a_if_lt (tgt := 568) C dL_addsUp_438 (by decide) (fun c438 => ?_) (fun c438 => ?_)
      · exact absurd (lcmp_lt.mp c438) (by rw [i64_lt, Int32.toInt_toInt64, A_r64 ht ht2 (hk5 q hq2)]; exact Int.not_lt.mpr (A_rem hG ht ht2 hc6 hk5 hk6 hq2 (hR.elim (fun y => y.2) (fun y => absurd y.1 c403))).2.1)
      · refine a_goto (tgt := 457) C dL_addsUp_441 (by decide) ?_
        refine a_loc [(0, .ref 0), (1, .ref 230), (2, .ref 231), (3, .ref 232), (4, .ref 233), (5, .int 1), (6, .int (nI q)), (7, .long (f 13 q).toInt64), (9, .long (f 13 q).toInt64)] (xsub_cons rfl (xsub_cons rfl (xsub_cons rfl (xsub_cons rfl (xsub_cons rfl (xsub_cons rfl (xsub_cons rfl (xsub_cons rfl (xsub_cons rfl (xsub_nil)))))))))) ?_
        exact au_t3 hflags C hN hbs hJ hq hA hB hK hq2 hKB hSB next (by omega) (by omega)
set_option maxRecDepth 100000 in
set_option maxHeartbeats 4000000 in
theorem au_t1 {E : xEnv} {l : Launch} {N0 : Nat} {D : va_G} {dT : Nat → ClassId} (hflags : l.stackTraces = false) (C : aC E l N0 D dT cL_addsUp yL_addsUp.cls 14 (some FieldType.boolean) [] (xRm 12 5600 33600) xNo) (hN : xNcE E) {h : xH} {n : Nat → Int32} {f : Nat → Nat → Int32} {g : Nat → Nat → Int64} {nc ni np nl q9 : Nat} {O G P M R : Nat → Int32} (hbs : xBs h) (hJ : JI n f g nc ni np nl q9) (hq : q9 ≤ 500) (hA : xLa h O G P M) (hB : ∀ t, n 1 = nI t → t ≤ 1460 → kB ni t f g) (hK : kK nc ni np nl f g O G P M R) {q : Nat} (hq2 : q < ni) {k s9 : Nat} {jc : Nat → Nat → Int32} {jr : Nat → Int64} {rm : Int32} {KB SB : Nat} (hKB : KB ≤ 5600) (hSB : SB ≤ 33600) (next : ∀ (k s9 : Nat) (jc : Nat → Nat → Int32) (jr : Nat → Int64), k ≤ KB → s9 ≤ SB → aW E k s9 (xC h nc ni np nl (n 1) f g jc jr) 571 [(0, .ref 0), (1, .ref 230), (2, .ref 231), (3, .ref 232), (4, .ref 233), (5, .int 1), (6, .int (nI q))] []) (hk : k + 14 ≤ KB) (hs : s9 + 84 ≤ SB) (hR : (rm = 1 ∧ xrm f q) ∨ (rm = 0 ∧ ¬ xrm f q)) : aW E k s9 (xC h nc ni np nl (n 1) f g jc jr) 334 [(0, .ref 0), (1, .ref 230), (2, .ref 231), (3, .ref 232), (4, .ref 233), (5, .int 1), (6, .int (nI q)), (7, .long (f 13 q).toInt64), (9, .long (f 13 q).toInt64), (11, .int rm)] [] := by
  have hnl := JI_nl hJ (by omega)
  obtain ⟨hI, ⟨t9, ht, ht2, hG⟩, hLl⟩ := id hJ
  obtain ⟨-, -, -, -, hc6, hi24, hp24, hl16⟩ := id hI
  have hBt := hB t9 ht ht2
  obtain ⟨⟨hkM, hkL, hkV⟩, hk1, hk2, hk3, hk4, hk5, hk6, hk7, hk8⟩ := id hK
  refine a_iload (i := 5) C dL_addsUp_334 rfl ?_
  refine a_if_eq (tgt := 568) C dL_addsUp_336 (by decide) (fun z => absurd z (by decide)) (fun _ => ?_)
  refine a_lload (i := 9) C dL_addsUp_339 rfl ?_
  refine a_lload (i := 7) C dL_addsUp_341 rfl ?_
  refine a_lcmp C dL_addsUp_343 ?_
  refine a_if_ne (tgt := 568) C dL_addsUp_344 (by decide) (fun c344 => ?_) (fun c344 => ?_)
  · exact absurd (lcmp_eq.mpr rfl) c344
  · refine a_aload_n (i := 0) C dL_addsUp_347 rfl rfl ?_
    refine a_iload (i := 6) C dL_addsUp_348 rfl ?_
    refine a_callSN (na := 2) C hN dL_addsUp_350 ⟨tb887, tb23, tb888, ⟨by decide, by decide, by decide +kernel⟩⟩ tb886 (w_byLedger hflags hbs hJ hq) rfl rfl (Nat.le_of_ble_eq_true rfl) ⟨Nat.le_of_ble_eq_true rfl, Nat.le_of_ble_eq_true rfl⟩ ⟨show k + 1 ≤ 5600 by omega, show s9 + 6 ≤ 33600 by omega⟩ (fun _ h => h.elim) xav_no (fun r350 hp350 hq350 => ?_)
    obtain ⟨rfl, jc350, jr350, rfl⟩ := pP_rd (v' := xsum (xlin f (nI q)) nl) hq350 (xin_of hq2 (by omega)) (rfl)
    refine a_lload (i := 9) C dL_addsUp_353 rfl ?_
    refine a_lcmp C dL_addsUp_355 ?_
    refine a_if_ne (tgt := 568) C dL_addsUp_356 (by decide) (fun c356 => ?_) (fun c356 => ?_)
    · exact absurd (lcmp_eq.mpr (by rw [hkL.1 q hq2])) c356
    · refine a_aload_n (i := 0) C dL_addsUp_359 rfl rfl ?_
      refine a_iload (i := 6) C dL_addsUp_360 rfl ?_
      refine a_callSN (na := 2) C hN dL_addsUp_362 ⟨tb732, tb23, tb733, ⟨by decide, by decide, by decide +kernel⟩⟩ tb731 (w_disputed hflags hbs hJ hq) rfl rfl (Nat.le_of_ble_eq_true rfl) ⟨Nat.le_of_ble_eq_true rfl, Nat.le_of_ble_eq_true rfl⟩ ⟨show k + 1 + 1 ≤ 5600 by omega, show s9 + 6 + 6 ≤ 33600 by omega⟩ (fun _ h => h.elim) xav_no (fun r362 hp362 hq362 => ?_)
      obtain ⟨rfl, jc362, jr362, rfl⟩ := pP_rd (v' := f 14 q) hq362 (xin_of hq2 (by omega)) (by rw [nI_clamp (by omega)])
      refine a_lconst (v := 0) C dL_addsUp_365 (by decide) ?_
      refine a_lload (i := 9) C dL_addsUp_366 rfl ?_
      refine a_callSP (na := 3) C hN dL_addsUp_368 ⟨tb900, tb23, tb901, ⟨by decide, by decide, by decide +kernel⟩⟩ tb899 (p_from hflags (by rw [← x64_0, x64_le, i32_le, i32_z]; exact (hG.2.2.2.1.1 q hq2).1) (x64_le.mpr (i32_le.mpr (hG.2.2.2.1.1 q hq2).2))) rfl rfl (Nat.le_of_ble_eq_true rfl) ⟨Nat.le_of_ble_eq_true rfl, Nat.le_of_ble_eq_true rfl⟩ ⟨show k + 1 + 1 + 0 ≤ 5600 by omega, show s9 + 6 + 6 + 0 ≤ 33600 by omega⟩ (fun _ h => h.elim) xav_no (fun r368 hp368 hq368 => ?_)
      obtain ⟨rfl, rfl⟩ := hq368
      refine a_if_eq (tgt := 568) C dL_addsUp_371 (by decide) (fun z => absurd z (by decide)) (fun _ => ?_)
      refine a_aload_n (i := 0) C dL_addsUp_374 rfl rfl ?_
      refine a_iload (i := 6) C dL_addsUp_375 rfl ?_
      refine a_callSN (na := 2) C hN dL_addsUp_377 ⟨tb784, tb23, tb785, ⟨by decide, by decide, by decide +kernel⟩⟩ tb783 (w_level hflags hbs hJ hq) rfl rfl (Nat.le_of_ble_eq_true rfl) ⟨Nat.le_of_ble_eq_true rfl, Nat.le_of_ble_eq_true rfl⟩ ⟨show k + 1 + 1 + 1 ≤ 5600 by omega, show s9 + 6 + 6 + 6 ≤ 33600 by omega⟩ (fun _ h => h.elim) xav_no (fun r377 hp377 hq377 => ?_)
      obtain ⟨rfl, jc377, jr377, rfl⟩ := pP_rd (v' := f 17 q) hq377 (xin_of hq2 (by omega)) (by rw [nI_clamp (by omega)])
      refine a_lconst (v := 0) C dL_addsUp_380 (by decide) ?_
      refine a_lload (i := 9) C dL_addsUp_381 rfl ?_
      refine a_lconst (v := 0) C dL_addsUp_383 (by decide) ?_
      refine a_lcmp C dL_addsUp_384 ?_
      refine a_if_ne (tgt := 392) C dL_addsUp_385 (by decide) (fun c385 => ?_) (fun c385 => ?_)
      · refine a_ldc2 C dL_addsUp_392 tb885 ?_
        refine a_callSP (na := 3) C hN dL_addsUp_395 ⟨tb900, tb23, tb901, ⟨by decide, by decide, by decide +kernel⟩⟩ tb899 (p_from hflags (by rw [← x64_0, x64_le, i32_le, i32_z]; exact (hkV q hq2).1) (by rw [i64_le, Int32.toInt_toInt64, show (4 : Int64).toInt = 4 from rfl]; exact (hkV q hq2).2.1)) rfl rfl (Nat.le_of_ble_eq_true rfl) ⟨Nat.le_of_ble_eq_true rfl, Nat.le_of_ble_eq_true rfl⟩ ⟨show k + 1 + 1 + 1 + 0 ≤ 5600 by omega, show s9 + 6 + 6 + 6 + 0 ≤ 33600 by omega⟩ (fun _ h => h.elim) xav_no (fun r395 hp395 hq395 => ?_)
        obtain ⟨rfl, rfl⟩ := hq395
        refine a_if_eq (tgt := 568) C dL_addsUp_398 (by decide) (fun z => absurd z (by decide)) (fun _ => ?_)
        refine a_loc [(0, .ref 0), (1, .ref 230), (2, .ref 231), (3, .ref 232), (4, .ref 233), (5, .int 1), (6, .int (nI q)), (7, .long (f 13 q).toInt64), (9, .long (f 13 q).toInt64), (11, .int rm)] (xsub_cons rfl (xsub_cons rfl (xsub_cons rfl (xsub_cons rfl (xsub_cons rfl (xsub_cons rfl (xsub_cons rfl (xsub_cons rfl (xsub_cons rfl (xsub_cons rfl (xsub_nil))))))))))) ?_
        exact au_t2 hflags C hN hbs hJ hq hA hB hK hq2 hKB hSB next (by omega) (by omega) hR
      · refine a_lconst (v := 0) C dL_addsUp_388 (by decide) ?_
        refine a_goto (tgt := 395) C dL_addsUp_389 (by decide) ?_
        refine a_callSP (na := 3) C hN dL_addsUp_395 ⟨tb900, tb23, tb901, ⟨by decide, by decide, by decide +kernel⟩⟩ tb899 (p_from hflags (by rw [← x64_0, x64_le, i32_le, i32_z]; exact (hkV q hq2).1) (by rw [(hkV q hq2).2.2 (by have := lcmp_eq.mp c385; rw [← x64_0] at this; exact x64_eq.mp this)]; exact Int64.le_refl _)) rfl rfl (Nat.le_of_ble_eq_true rfl) ⟨Nat.le_of_ble_eq_true rfl, Nat.le_of_ble_eq_true rfl⟩ ⟨show k + 1 + 1 + 1 + 0 ≤ 5600 by omega, show s9 + 6 + 6 + 6 + 0 ≤ 33600 by omega⟩ (fun _ h => h.elim) xav_no (fun r395 hp395 hq395 => ?_)
        obtain ⟨rfl, rfl⟩ := hq395
        refine a_if_eq (tgt := 568) C dL_addsUp_398 (by decide) (fun z => absurd z (by decide)) (fun _ => ?_)
        refine a_loc [(0, .ref 0), (1, .ref 230), (2, .ref 231), (3, .ref 232), (4, .ref 233), (5, .int 1), (6, .int (nI q)), (7, .long (f 13 q).toInt64), (9, .long (f 13 q).toInt64), (11, .int rm)] (xsub_cons rfl (xsub_cons rfl (xsub_cons rfl (xsub_cons rfl (xsub_cons rfl (xsub_cons rfl (xsub_cons rfl (xsub_cons rfl (xsub_cons rfl (xsub_cons rfl (xsub_nil))))))))))) ?_
        exact au_t2 hflags C hN hbs hJ hq hA hB hK hq2 hKB hSB next (by omega) (by omega) hR
set_option maxRecDepth 100000 in
set_option maxHeartbeats 4000000 in
theorem au_t0 {E : xEnv} {l : Launch} {N0 : Nat} {D : va_G} {dT : Nat → ClassId} (hflags : l.stackTraces = false) (C : aC E l N0 D dT cL_addsUp yL_addsUp.cls 14 (some FieldType.boolean) [] (xRm 12 5600 33600) xNo) (hN : xNcE E) {h : xH} {n : Nat → Int32} {f : Nat → Nat → Int32} {g : Nat → Nat → Int64} {nc ni np nl q9 : Nat} {O G P M R : Nat → Int32} (hbs : xBs h) (hJ : JI n f g nc ni np nl q9) (hq : q9 ≤ 500) (hA : xLa h O G P M) (hB : ∀ t, n 1 = nI t → t ≤ 1460 → kB ni t f g) (hK : kK nc ni np nl f g O G P M R) {q : Nat} (hq2 : q < ni) {k s9 : Nat} {jc : Nat → Nat → Int32} {jr : Nat → Int64} {KB SB : Nat} (hKB : KB ≤ 5600) (hSB : SB ≤ 33600) (next : ∀ (k s9 : Nat) (jc : Nat → Nat → Int32) (jr : Nat → Int64), k ≤ KB → s9 ≤ SB → aW E k s9 (xC h nc ni np nl (n 1) f g jc jr) 571 [(0, .ref 0), (1, .ref 230), (2, .ref 231), (3, .ref 232), (4, .ref 233), (5, .int 1), (6, .int (nI q))] []) (hk : k + 17 ≤ KB) (hs : s9 + 102 ≤ SB) : aW E k s9 (xC h nc ni np nl (n 1) f g jc jr) 288 [(0, .ref 0), (1, .ref 230), (2, .ref 231), (3, .ref 232), (4, .ref 233), (5, .int 1), (6, .int (nI q)), (7, .long (f 13 q).toInt64)] [] := by
  have hnl := JI_nl hJ (by omega)
  obtain ⟨hI, ⟨t9, ht, ht2, hG⟩, hLl⟩ := id hJ
  obtain ⟨-, -, -, -, hc6, hi24, hp24, hl16⟩ := id hI
  have hBt := hB t9 ht ht2
  obtain ⟨⟨hkM, hkL, hkV⟩, hk1, hk2, hk3, hk4, hk5, hk6, hk7, hk8⟩ := id hK
  refine a_aload_n (i := 0) C dL_addsUp_288 rfl rfl ?_
  refine a_iload (i := 6) C dL_addsUp_289 rfl ?_
  refine a_callSN (na := 2) C hN dL_addsUp_291 ⟨tb725, tb23, tb726, ⟨by decide, by decide, by decide +kernel⟩⟩ tb724 (w_open hflags hbs hJ hq) rfl rfl (Nat.le_of_ble_eq_true rfl) ⟨Nat.le_of_ble_eq_true rfl, Nat.le_of_ble_eq_true rfl⟩ ⟨show k + 1 ≤ 5600 by omega, show s9 + 6 ≤ 33600 by omega⟩ (fun _ h => h.elim) xav_no (fun r291 hp291 hq291 => ?_)
  obtain ⟨rfl, jc291, jr291, rfl⟩ := pP_rd (v' := f 13 q) hq291 (xin_of hq2 (by omega)) (by rw [nI_clamp (by omega)])
  refine a_lstore (i := 9) C dL_addsUp_294 (by decide) ?_
  refine a_aload_n (i := 0) C dL_addsUp_296 rfl rfl ?_
  refine a_iload (i := 6) C dL_addsUp_297 rfl ?_
  refine a_callSN (na := 2) C hN dL_addsUp_299 ⟨tb784, tb23, tb785, ⟨by decide, by decide, by decide +kernel⟩⟩ tb783 (w_level hflags hbs hJ hq) rfl rfl (Nat.le_of_ble_eq_true rfl) ⟨Nat.le_of_ble_eq_true rfl, Nat.le_of_ble_eq_true rfl⟩ ⟨show k + 1 + 1 ≤ 5600 by omega, show s9 + 6 + 6 ≤ 33600 by omega⟩ (fun _ h => h.elim) xav_no (fun r299 hp299 hq299 => ?_)
  obtain ⟨rfl, jc299, jr299, rfl⟩ := pP_rd (v' := f 17 q) hq299 (xin_of hq2 (by omega)) (by rw [nI_clamp (by omega)])
  refine a_ldc2 C dL_addsUp_302 tb885 ?_
  refine a_lcmp C dL_addsUp_305 ?_
  refine a_if_ge (tgt := 331) C dL_addsUp_306 (by decide) (fun c306 => ?_) (fun c306 => ?_)
  · refine a_iconst (v := 0) C dL_addsUp_331 (by decide) ?_
    refine a_istore (i := 11) C dL_addsUp_332 (by decide) ?_
    refine a_loc [(0, .ref 0), (1, .ref 230), (2, .ref 231), (3, .ref 232), (4, .ref 233), (5, .int 1), (6, .int (nI q)), (7, .long (f 13 q).toInt64), (9, .long (f 13 q).toInt64), (11, .int _)] (xsub_cons rfl (xsub_cons rfl (xsub_cons rfl (xsub_cons rfl (xsub_cons rfl (xsub_cons rfl (xsub_cons rfl (xsub_cons rfl (xsub_cons rfl (xsub_cons rfl (xsub_nil))))))))))) ?_
    first
    | exact au_t1 hflags C hN hbs hJ hq hA hB hK hq2 hKB hSB next (by omega) (by omega) (Or.inl ⟨rfl, by have := lcmp_lt.mp (Int32.not_le.mp c306); rw [i64_lt, Int32.toInt_toInt64] at this; exact i32_lt.mpr this, by have := lcmp_gt.mp (Int32.not_le.mp c313); rw [← x64_0] at this; exact x64_lt.mp this, by have := lcmp_eq.mp c324; rw [← x64_0] at this; exact x64_eq.mp this⟩)
    | exact au_t1 hflags C hN hbs hJ hq hA hB hK hq2 hKB hSB next (by omega) (by omega) (Or.inr ⟨rfl, fun z => c324 (lcmp_eq.mpr (by rw [z.2.2]; rfl))⟩)
    | exact au_t1 hflags C hN hbs hJ hq hA hB hK hq2 hKB hSB next (by omega) (by omega) (Or.inr ⟨rfl, fun z => lcmp_le.mp c313 (by rw [← x64_0]; exact x64_lt.mpr z.2.1)⟩)
    | exact au_t1 hflags C hN hbs hJ hq hA hB hK hq2 hKB hSB next (by omega) (by omega) (Or.inr ⟨rfl, fun z => lcmp_ge.mp c306 (by rw [i64_lt, Int32.toInt_toInt64]; exact i32_lt.mp z.1)⟩)
  · refine a_lload (i := 9) C dL_addsUp_309 rfl ?_
    refine a_lconst (v := 0) C dL_addsUp_311 (by decide) ?_
    refine a_lcmp C dL_addsUp_312 ?_
    refine a_if_le (tgt := 331) C dL_addsUp_313 (by decide) (fun c313 => ?_) (fun c313 => ?_)
    · refine a_iconst (v := 0) C dL_addsUp_331 (by decide) ?_
      refine a_istore (i := 11) C dL_addsUp_332 (by decide) ?_
      refine a_loc [(0, .ref 0), (1, .ref 230), (2, .ref 231), (3, .ref 232), (4, .ref 233), (5, .int 1), (6, .int (nI q)), (7, .long (f 13 q).toInt64), (9, .long (f 13 q).toInt64), (11, .int _)] (xsub_cons rfl (xsub_cons rfl (xsub_cons rfl (xsub_cons rfl (xsub_cons rfl (xsub_cons rfl (xsub_cons rfl (xsub_cons rfl (xsub_cons rfl (xsub_cons rfl (xsub_nil))))))))))) ?_
      first
      | exact au_t1 hflags C hN hbs hJ hq hA hB hK hq2 hKB hSB next (by omega) (by omega) (Or.inl ⟨rfl, by have := lcmp_lt.mp (Int32.not_le.mp c306); rw [i64_lt, Int32.toInt_toInt64] at this; exact i32_lt.mpr this, by have := lcmp_gt.mp (Int32.not_le.mp c313); rw [← x64_0] at this; exact x64_lt.mp this, by have := lcmp_eq.mp c324; rw [← x64_0] at this; exact x64_eq.mp this⟩)
      | exact au_t1 hflags C hN hbs hJ hq hA hB hK hq2 hKB hSB next (by omega) (by omega) (Or.inr ⟨rfl, fun z => c324 (lcmp_eq.mpr (by rw [z.2.2]; rfl))⟩)
      | exact au_t1 hflags C hN hbs hJ hq hA hB hK hq2 hKB hSB next (by omega) (by omega) (Or.inr ⟨rfl, fun z => lcmp_le.mp c313 (by rw [← x64_0]; exact x64_lt.mpr z.2.1)⟩)
      | exact au_t1 hflags C hN hbs hJ hq hA hB hK hq2 hKB hSB next (by omega) (by omega) (Or.inr ⟨rfl, fun z => lcmp_ge.mp c306 (by rw [i64_lt, Int32.toInt_toInt64]; exact i32_lt.mp z.1)⟩)
    · refine a_aload_n (i := 0) C dL_addsUp_316 rfl rfl ?_
      refine a_iload (i := 6) C dL_addsUp_317 rfl ?_
      refine a_callSN (na := 2) C hN dL_addsUp_319 ⟨tb732, tb23, tb733, ⟨by decide, by decide, by decide +kernel⟩⟩ tb731 (w_disputed hflags hbs hJ hq) rfl rfl (Nat.le_of_ble_eq_true rfl) ⟨Nat.le_of_ble_eq_true rfl, Nat.le_of_ble_eq_true rfl⟩ ⟨show k + 1 + 1 + 1 ≤ 5600 by omega, show s9 + 6 + 6 + 6 ≤ 33600 by omega⟩ (fun _ h => h.elim) xav_no (fun r319 hp319 hq319 => ?_)
      obtain ⟨rfl, jc319, jr319, rfl⟩ := pP_rd (v' := f 14 q) hq319 (xin_of hq2 (by omega)) (by rw [nI_clamp (by omega)])
      refine a_lconst (v := 0) C dL_addsUp_322 (by decide) ?_
      refine a_lcmp C dL_addsUp_323 ?_
      refine a_if_ne (tgt := 331) C dL_addsUp_324 (by decide) (fun c324 => ?_) (fun c324 => ?_)
      · refine a_iconst (v := 0) C dL_addsUp_331 (by decide) ?_
        refine a_istore (i := 11) C dL_addsUp_332 (by decide) ?_
        refine a_loc [(0, .ref 0), (1, .ref 230), (2, .ref 231), (3, .ref 232), (4, .ref 233), (5, .int 1), (6, .int (nI q)), (7, .long (f 13 q).toInt64), (9, .long (f 13 q).toInt64), (11, .int _)] (xsub_cons rfl (xsub_cons rfl (xsub_cons rfl (xsub_cons rfl (xsub_cons rfl (xsub_cons rfl (xsub_cons rfl (xsub_cons rfl (xsub_cons rfl (xsub_cons rfl (xsub_nil))))))))))) ?_
        first
        | exact au_t1 hflags C hN hbs hJ hq hA hB hK hq2 hKB hSB next (by omega) (by omega) (Or.inl ⟨rfl, by have := lcmp_lt.mp (Int32.not_le.mp c306); rw [i64_lt, Int32.toInt_toInt64] at this; exact i32_lt.mpr this, by have := lcmp_gt.mp (Int32.not_le.mp c313); rw [← x64_0] at this; exact x64_lt.mp this, by have := lcmp_eq.mp c324; rw [← x64_0] at this; exact x64_eq.mp this⟩)
        | exact au_t1 hflags C hN hbs hJ hq hA hB hK hq2 hKB hSB next (by omega) (by omega) (Or.inr ⟨rfl, fun z => c324 (lcmp_eq.mpr (by rw [z.2.2]; rfl))⟩)
        | exact au_t1 hflags C hN hbs hJ hq hA hB hK hq2 hKB hSB next (by omega) (by omega) (Or.inr ⟨rfl, fun z => lcmp_le.mp c313 (by rw [← x64_0]; exact x64_lt.mpr z.2.1)⟩)
        | exact au_t1 hflags C hN hbs hJ hq hA hB hK hq2 hKB hSB next (by omega) (by omega) (Or.inr ⟨rfl, fun z => lcmp_ge.mp c306 (by rw [i64_lt, Int32.toInt_toInt64]; exact i32_lt.mp z.1)⟩)
      · refine a_iconst (v := 1) C dL_addsUp_327 (by decide) ?_
        refine a_goto (tgt := 332) C dL_addsUp_328 (by decide) ?_
        refine a_istore (i := 11) C dL_addsUp_332 (by decide) ?_
        refine a_loc [(0, .ref 0), (1, .ref 230), (2, .ref 231), (3, .ref 232), (4, .ref 233), (5, .int 1), (6, .int (nI q)), (7, .long (f 13 q).toInt64), (9, .long (f 13 q).toInt64), (11, .int _)] (xsub_cons rfl (xsub_cons rfl (xsub_cons rfl (xsub_cons rfl (xsub_cons rfl (xsub_cons rfl (xsub_cons rfl (xsub_cons rfl (xsub_cons rfl (xsub_cons rfl (xsub_nil))))))))))) ?_
        first
        | exact au_t1 hflags C hN hbs hJ hq hA hB hK hq2 hKB hSB next (by omega) (by omega) (Or.inl ⟨rfl, by have := lcmp_lt.mp (Int32.not_le.mp c306); rw [i64_lt, Int32.toInt_toInt64] at this; exact i32_lt.mpr this, by have := lcmp_gt.mp (Int32.not_le.mp c313); rw [← x64_0] at this; exact x64_lt.mp this, by have := lcmp_eq.mp c324; rw [← x64_0] at this; exact x64_eq.mp this⟩)
        | exact au_t1 hflags C hN hbs hJ hq hA hB hK hq2 hKB hSB next (by omega) (by omega) (Or.inr ⟨rfl, fun z => c324 (lcmp_eq.mpr (by rw [z.2.2]; rfl))⟩)
        | exact au_t1 hflags C hN hbs hJ hq hA hB hK hq2 hKB hSB next (by omega) (by omega) (Or.inr ⟨rfl, fun z => lcmp_le.mp c313 (by rw [← x64_0]; exact x64_lt.mpr z.2.1)⟩)
        | exact au_t1 hflags C hN hbs hJ hq hA hB hK hq2 hKB hSB next (by omega) (by omega) (Or.inr ⟨rfl, fun z => lcmp_ge.mp c306 (by rw [i64_lt, Int32.toInt_toInt64]; exact i32_lt.mp z.1)⟩)
set_option maxRecDepth 100000 in
set_option maxHeartbeats 4000000 in
theorem au_inv {E : xEnv} {l : Launch} {N0 : Nat} {D : va_G} {dT : Nat → ClassId} (hflags : l.stackTraces = false) (C : aC E l N0 D dT cL_addsUp yL_addsUp.cls 14 (some FieldType.boolean) [] (xRm 12 5600 33600) xNo) (hN : xNcE E) {h : xH} {n : Nat → Int32} {f : Nat → Nat → Int32} {g : Nat → Nat → Int64} {nc ni np nl q9 : Nat} {O G P M R : Nat → Int32} (hbs : xBs h) (hJ : JI n f g nc ni np nl q9) (hq : q9 ≤ 500) (hA : xLa h O G P M) (hB : ∀ t, n 1 = nI t → t ≤ 1460 → kB ni t f g) (hK : kK nc ni np nl f g O G P M R)  {KB SB : Nat} (hKB : KB ≤ 5600) (hSB : SB ≤ 33600) (next : ∀ (k s9 : Nat) (jc : Nat → Nat → Int32) (jr : Nat → Int64), k ≤ KB → s9 ≤ SB → aW E k s9 (xC h nc ni np nl (n 1) f g jc jr) 577 [(0, .ref 0), (1, .ref 230), (2, .ref 231), (3, .ref 232), (4, .ref 233), (5, .int 1)] []) : ∀ (fu i : Nat) (k s9 : Nat) (jc : Nat → Nat → Int32) (jr : Nat → Int64), i ≤ ni → ni < i + fu → k + 165 * (ni - i) ≤ KB → s9 + 990 * (ni - i) ≤ SB → aW E k s9 (xC h nc ni np nl (n 1) f g jc jr) 180 [(0, .ref 0), (1, .ref 230), (2, .ref 231), (3, .ref 232), (4, .ref 233), (5, .int 1), (6, .int (nI i))] [] := by
  have hnl := JI_nl hJ (by omega)
  obtain ⟨hI, ⟨t9, ht, ht2, hG⟩, hLl⟩ := id hJ
  obtain ⟨-, -, -, -, hc6, hi24, hp24, hl16⟩ := id hI
  have hBt := hB t9 ht ht2
  obtain ⟨⟨hkM, hkL, hkV⟩, hk1, hk2, hk3, hk4, hk5, hk6, hk7, hk8⟩ := id hK
  intro fu
  induction fu with
  | zero => intro i k s9 jc jr h1 h2; exact absurd h2 (by omega)
  | succ fu ih =>
    intro i k s9 jc jr h1 h2 hk hs
    refine a_iload (i := 6) C dL_addsUp_180 rfl ?_
    refine a_aload_n (i := 0) C dL_addsUp_182 rfl rfl ?_
    refine a_callV C dL_addsUp_183 cv_X6_invoices tb146 (k_invoices hflags) rfl rfl xC_0 rfl (Nat.le_of_ble_eq_true rfl) ⟨Nat.le_of_ble_eq_true rfl, Nat.le_of_ble_eq_true rfl⟩ ⟨show k + 0 ≤ 5600 by omega, show s9 + 0 ≤ 33600 by omega⟩ (fun _ h => h.elim) xav_no (fun _ _ h => h.elim) (fun r183 hp183 hq183 => ?_)
    obtain ⟨rfl, rfl⟩ := hq183
    refine a_icmp_ge (tgt := 577) C dL_addsUp_186 (by decide) (fun c186 => ?_) (fun c186 => ?_)
    · have hie : i = ni := by
        have := (xle (a := ni) (b := i) (by omega) (by omega)).mp c186
        omega
      rw [hie]
      refine a_loc [(0, .ref 0), (1, .ref 230), (2, .ref 231), (3, .ref 232), (4, .ref 233), (5, .int 1)] (xsub_cons rfl (xsub_cons rfl (xsub_cons rfl (xsub_cons rfl (xsub_cons rfl (xsub_cons rfl (xsub_nil))))))) ?_
      exact next _ _ _ _ (by omega) (by omega)
    · have hlt : i < ni := by
        rcases Nat.lt_or_ge i ni with q | q
        · exact q
        · exact absurd ((xle (a := ni) (b := i) (by omega) (by omega)).mpr q) c186
      refine a_iload (i := 5) C dL_addsUp_189 rfl ?_
      refine a_if_eq (tgt := 577) C dL_addsUp_191 (by decide) (fun z => absurd z (by decide)) (fun _ => ?_)
      refine a_aload_n (i := 0) C dL_addsUp_194 rfl rfl ?_
      refine a_iload (i := 6) C dL_addsUp_195 rfl ?_
      refine a_callSN (na := 2) C hN dL_addsUp_197 ⟨tb718, tb23, tb719, ⟨by decide, by decide, by decide +kernel⟩⟩ tb717 (w_amount hflags hbs hJ hq) rfl rfl (Nat.le_of_ble_eq_true rfl) ⟨Nat.le_of_ble_eq_true rfl, Nat.le_of_ble_eq_true rfl⟩ ⟨show k + 1 ≤ 5600 by omega, show s9 + 6 ≤ 33600 by omega⟩ (fun _ h => h.elim) xav_no (fun r197 hp197 hq197 => ?_)
      obtain ⟨rfl, jc197, jr197, rfl⟩ := pP_rd (v' := f 11 i) hq197 (xin_of hlt (by omega)) (by rw [nI_clamp (by omega)])
      refine a_aload_n (i := 2) C dL_addsUp_200 rfl rfl ?_
      refine a_iload (i := 6) C dL_addsUp_201 rfl ?_
      refine a_ialdI C dL_addsUp_203 (xC_L hA.2.1 (by decide)) ⟨by omega, by omega⟩ ?_
      refine a_i2l C dL_addsUp_204 ?_
      refine a_lsub C dL_addsUp_205 ?_
      refine a_lstore (i := 7) C dL_addsUp_206 (by decide) ?_
      refine a_iconst (v := 0) C dL_addsUp_208 (by decide) ?_
      refine a_istore (i := 9) C dL_addsUp_209 (by decide) ?_
      refine a_loc [(0, .ref 0), (1, .ref 230), (2, .ref 231), (3, .ref 232), (4, .ref 233), (5, .int 1), (6, .int (nI i)), (7, .long (ysub ((f 11 i).toInt64 - (G i).toInt64) (fun k => (f 22 (24 * k + i)).toInt64) 0)), (9, .int (nI 0))] (xsub_cons rfl (xsub_cons rfl (xsub_cons rfl (xsub_cons rfl (xsub_cons rfl (xsub_cons rfl (xsub_cons rfl (xsub_cons rfl (xsub_cons rfl (xsub_nil)))))))))) ?_
      refine au_cell hflags C hN hbs hJ hq hA hB hK (q := i) hlt (KB := k + 1 + 144) (SB := s9 + 6 + 864) (by omega) (by omega) (fun k288 s288 jc288 jr288 hk288 hs288 => ?_) (np + 1) 0 (k + 1) (s9 + 6) _ _ (Nat.zero_le _) (by omega) (by omega) (by omega)
      refine au_t0 hflags C hN hbs hJ hq hA hB hK (q := i) hlt (KB := k + 165) (SB := s9 + 990) (by omega) (by omega) (fun k571 s571 jc571 jr571 hk571 hs571 => ?_) (by omega) (by omega)
      refine a_iinc (i := 6) (v := nI (i + 1)) C dL_addsUp_571 rfl (nI_1 i) (by decide) ?_
      refine a_goto (tgt := 180) C dL_addsUp_574 (by decide) ?_
      refine a_loc [(0, .ref 0), (1, .ref 230), (2, .ref 231), (3, .ref 232), (4, .ref 233), (5, .int 1), (6, .int (nI (i + 1)))] (xsub_cons rfl (xsub_cons rfl (xsub_cons rfl (xsub_cons rfl (xsub_cons rfl (xsub_cons rfl (xsub_cons rfl (xsub_nil)))))))) ?_
      exact ih (i + 1) _ _ _ _ (by omega) (by omega) (by omega) (by omega)
set_option maxRecDepth 100000 in
set_option maxHeartbeats 4000000 in
theorem au_psum {E : xEnv} {l : Launch} {N0 : Nat} {D : va_G} {dT : Nat → ClassId} (hflags : l.stackTraces = false) (C : aC E l N0 D dT cL_addsUp yL_addsUp.cls 14 (some FieldType.boolean) [] (xRm 12 5600 33600) xNo) (hN : xNcE E) {h : xH} {n : Nat → Int32} {f : Nat → Nat → Int32} {g : Nat → Nat → Int64} {nc ni np nl q9 : Nat} {O G P M R : Nat → Int32} (hbs : xBs h) (hJ : JI n f g nc ni np nl q9) (hq : q9 ≤ 500) (hA : xLa h O G P M) (hB : ∀ t, n 1 = nI t → t ≤ 1460 → kB ni t f g) (hK : kK nc ni np nl f g O G P M R) {q : Nat} (hq2 : q < np) {KB SB : Nat} (hKB : KB ≤ 5600) (hSB : SB ≤ 33600) (next : ∀ (k s9 : Nat) (jc : Nat → Nat → Int32) (jr : Nat → Int64), k ≤ KB → s9 ≤ SB → aW E k s9 (xC h nc ni np nl (n 1) f g jc jr) 633 [(0, .ref 0), (1, .ref 230), (2, .ref 231), (3, .ref 232), (4, .ref 233), (5, .int 1), (6, .int (nI q)), (7, .long (M q).toInt64)] []) : ∀ (fu i : Nat) (k s9 : Nat) (jc : Nat → Nat → Int32) (jr : Nat → Int64), i ≤ ni → ni < i + fu → k + 2 * (ni - i) ≤ KB → s9 + 12 * (ni - i) ≤ SB → aW E k s9 (xC h nc ni np nl (n 1) f g jc jr) 605 [(0, .ref 0), (1, .ref 230), (2, .ref 231), (3, .ref 232), (4, .ref 233), (5, .int 1), (6, .int (nI q)), (7, .long (yadd (f 20 q).toInt64 (fun i => (f 22 (24 * q + i)).toInt64) i)), (9, .int (nI i))] [] := by
  have hnl := JI_nl hJ (by omega)
  obtain ⟨hI, ⟨t9, ht, ht2, hG⟩, hLl⟩ := id hJ
  obtain ⟨-, -, -, -, hc6, hi24, hp24, hl16⟩ := id hI
  have hBt := hB t9 ht ht2
  obtain ⟨⟨hkM, hkL, hkV⟩, hk1, hk2, hk3, hk4, hk5, hk6, hk7, hk8⟩ := id hK
  intro fu
  induction fu with
  | zero => intro i k s9 jc jr h1 h2; exact absurd h2 (by omega)
  | succ fu ih =>
    intro i k s9 jc jr h1 h2 hk hs
    refine a_iload (i := 9) C dL_addsUp_605 rfl ?_
    refine a_aload_n (i := 0) C dL_addsUp_607 rfl rfl ?_
    refine a_callV C dL_addsUp_608 cv_X6_invoices tb146 (k_invoices hflags) rfl rfl xC_0 rfl (Nat.le_of_ble_eq_true rfl) ⟨Nat.le_of_ble_eq_true rfl, Nat.le_of_ble_eq_true rfl⟩ ⟨show k + 0 ≤ 5600 by omega, show s9 + 0 ≤ 33600 by omega⟩ (fun _ h => h.elim) xav_no (fun _ _ h => h.elim) (fun r608 hp608 hq608 => ?_)
    obtain ⟨rfl, rfl⟩ := hq608
    refine a_icmp_ge (tgt := 633) C dL_addsUp_611 (by decide) (fun c611 => ?_) (fun c611 => ?_)
    · have hie : i = ni := by
        have := (xle (a := ni) (b := i) (by omega) (by omega)).mp c611
        omega
      rw [hie, A_add hkM hi24 hq2]
      refine a_loc [(0, .ref 0), (1, .ref 230), (2, .ref 231), (3, .ref 232), (4, .ref 233), (5, .int 1), (6, .int (nI q)), (7, .long (M q).toInt64)] (xsub_cons rfl (xsub_cons rfl (xsub_cons rfl (xsub_cons rfl (xsub_cons rfl (xsub_cons rfl (xsub_cons rfl (xsub_cons rfl (xsub_nil))))))))) ?_
      exact next _ _ _ _ (by omega) (by omega)
    · have hlt : i < ni := by
        rcases Nat.lt_or_ge i ni with q | q
        · exact q
        · exact absurd ((xle (a := ni) (b := i) (by omega) (by omega)).mpr q) c611
      refine a_lload (i := 7) C dL_addsUp_614 rfl ?_
      refine a_aload_n (i := 0) C dL_addsUp_616 rfl rfl ?_
      refine a_iload (i := 6) C dL_addsUp_617 rfl ?_
      refine a_iload (i := 9) C dL_addsUp_619 rfl ?_
      refine a_callSN (na := 3) C hN dL_addsUp_621 ⟨tb739, tb23, tb740, ⟨by decide, by decide, by decide +kernel⟩⟩ tb738 (w_allocated hflags hbs hJ hq) rfl rfl (Nat.le_of_ble_eq_true rfl) ⟨Nat.le_of_ble_eq_true rfl, Nat.le_of_ble_eq_true rfl⟩ ⟨show k + 2 ≤ 5600 by omega, show s9 + 12 ≤ 33600 by omega⟩ (fun _ h => h.elim) xav_no (fun r621 hp621 hq621 => ?_)
      obtain ⟨rfl, jc621, jr621, rfl⟩ := pP_rd (v' := f 22 (24 * q + i)) hq621 ⟨xin_of hq2 (by omega), xin_of hlt (by omega)⟩ (by rw [nI_clamp (by omega), nI_clamp (by omega)])
      refine a_ladd C dL_addsUp_624 ?_
      refine a_topl (yadd (f 20 q).toInt64 (fun i => (f 22 (24 * q + i)).toInt64) (i + 1)) rfl ?_
      refine a_lstore (i := 7) C dL_addsUp_625 (by decide) ?_
      refine a_iinc (i := 9) (v := nI (i + 1)) C dL_addsUp_627 rfl (nI_1 i) (by decide) ?_
      refine a_goto (tgt := 605) C dL_addsUp_630 (by decide) ?_
      refine a_loc [(0, .ref 0), (1, .ref 230), (2, .ref 231), (3, .ref 232), (4, .ref 233), (5, .int 1), (6, .int (nI q)), (7, .long (yadd (f 20 q).toInt64 (fun i => (f 22 (24 * q + i)).toInt64) (i + 1))), (9, .int (nI (i + 1)))] (xsub_cons rfl (xsub_cons rfl (xsub_cons rfl (xsub_cons rfl (xsub_cons rfl (xsub_cons rfl (xsub_cons rfl (xsub_cons rfl (xsub_cons rfl (xsub_nil)))))))))) ?_
      exact ih (i + 1) _ _ _ _ (by omega) (by omega) (by omega) (by omega)
set_option maxRecDepth 100000 in
set_option maxHeartbeats 4000000 in
theorem au_pay {E : xEnv} {l : Launch} {N0 : Nat} {D : va_G} {dT : Nat → ClassId} (hflags : l.stackTraces = false) (C : aC E l N0 D dT cL_addsUp yL_addsUp.cls 14 (some FieldType.boolean) [] (xRm 12 5600 33600) xNo) (hN : xNcE E) {h : xH} {n : Nat → Int32} {f : Nat → Nat → Int32} {g : Nat → Nat → Int64} {nc ni np nl q9 : Nat} {O G P M R : Nat → Int32} (hbs : xBs h) (hJ : JI n f g nc ni np nl q9) (hq : q9 ≤ 500) (hA : xLa h O G P M) (hB : ∀ t, n 1 = nI t → t ≤ 1460 → kB ni t f g) (hK : kK nc ni np nl f g O G P M R)  {KB SB : Nat} (hKB : KB ≤ 5600) (hSB : SB ≤ 33600) (next : ∀ (k s9 : Nat) (jc : Nat → Nat → Int32) (jr : Nat → Int64), k ≤ KB → s9 ≤ SB → aW E k s9 (xC h nc ni np nl (n 1) f g jc jr) 669 [(0, .ref 0), (1, .ref 230), (2, .ref 231), (3, .ref 232), (4, .ref 233), (5, .int 1)] []) : ∀ (fu i : Nat) (k s9 : Nat) (jc : Nat → Nat → Int32) (jr : Nat → Int64), i ≤ np → np < i + fu → k + 50 * (np - i) ≤ KB → s9 + 300 * (np - i) ≤ SB → aW E k s9 (xC h nc ni np nl (n 1) f g jc jr) 580 [(0, .ref 0), (1, .ref 230), (2, .ref 231), (3, .ref 232), (4, .ref 233), (5, .int 1), (6, .int (nI i))] [] := by
  have hnl := JI_nl hJ (by omega)
  obtain ⟨hI, ⟨t9, ht, ht2, hG⟩, hLl⟩ := id hJ
  obtain ⟨-, -, -, -, hc6, hi24, hp24, hl16⟩ := id hI
  have hBt := hB t9 ht ht2
  obtain ⟨⟨hkM, hkL, hkV⟩, hk1, hk2, hk3, hk4, hk5, hk6, hk7, hk8⟩ := id hK
  intro fu
  induction fu with
  | zero => intro i k s9 jc jr h1 h2; exact absurd h2 (by omega)
  | succ fu ih =>
    intro i k s9 jc jr h1 h2 hk hs
    refine a_iload (i := 6) C dL_addsUp_580 rfl ?_
    refine a_aload_n (i := 0) C dL_addsUp_582 rfl rfl ?_
    refine a_callV C dL_addsUp_583 cv_X6_payments tb150 (k_payments hflags) rfl rfl xC_0 rfl (Nat.le_of_ble_eq_true rfl) ⟨Nat.le_of_ble_eq_true rfl, Nat.le_of_ble_eq_true rfl⟩ ⟨show k + 0 ≤ 5600 by omega, show s9 + 0 ≤ 33600 by omega⟩ (fun _ h => h.elim) xav_no (fun _ _ h => h.elim) (fun r583 hp583 hq583 => ?_)
    obtain ⟨rfl, rfl⟩ := hq583
    refine a_icmp_ge (tgt := 669) C dL_addsUp_586 (by decide) (fun c586 => ?_) (fun c586 => ?_)
    · have hie : i = np := by
        have := (xle (a := np) (b := i) (by omega) (by omega)).mp c586
        omega
      rw [hie]
      refine a_loc [(0, .ref 0), (1, .ref 230), (2, .ref 231), (3, .ref 232), (4, .ref 233), (5, .int 1)] (xsub_cons rfl (xsub_cons rfl (xsub_cons rfl (xsub_cons rfl (xsub_cons rfl (xsub_cons rfl (xsub_nil))))))) ?_
      exact next _ _ _ _ (by omega) (by omega)
    · have hlt : i < np := by
        rcases Nat.lt_or_ge i np with q | q
        · exact q
        · exact absurd ((xle (a := np) (b := i) (by omega) (by omega)).mpr q) c586
      refine a_iload (i := 5) C dL_addsUp_589 rfl ?_
      refine a_if_eq (tgt := 669) C dL_addsUp_591 (by decide) (fun z => absurd z (by decide)) (fun _ => ?_)
      refine a_aload_n (i := 0) C dL_addsUp_594 rfl rfl ?_
      refine a_iload (i := 6) C dL_addsUp_595 rfl ?_
      refine a_callSN (na := 2) C hN dL_addsUp_597 ⟨tb746, tb23, tb747, ⟨by decide, by decide, by decide +kernel⟩⟩ tb745 (w_unallocated hflags hbs hJ hq) rfl rfl (Nat.le_of_ble_eq_true rfl) ⟨Nat.le_of_ble_eq_true rfl, Nat.le_of_ble_eq_true rfl⟩ ⟨show k + 1 ≤ 5600 by omega, show s9 + 6 ≤ 33600 by omega⟩ (fun _ h => h.elim) xav_no (fun r597 hp597 hq597 => ?_)
      obtain ⟨rfl, jc597, jr597, rfl⟩ := pP_rd (v' := f 20 i) hq597 (xin_of hlt (by omega)) (by rw [nI_clamp (by omega)])
      refine a_lstore (i := 7) C dL_addsUp_600 (by decide) ?_
      refine a_iconst (v := 0) C dL_addsUp_602 (by decide) ?_
      refine a_istore (i := 9) C dL_addsUp_603 (by decide) ?_
      refine a_loc [(0, .ref 0), (1, .ref 230), (2, .ref 231), (3, .ref 232), (4, .ref 233), (5, .int 1), (6, .int (nI i)), (7, .long (yadd (f 20 i).toInt64 (fun j => (f 22 (24 * i + j)).toInt64) 0)), (9, .int (nI 0))] (xsub_cons rfl (xsub_cons rfl (xsub_cons rfl (xsub_cons rfl (xsub_cons rfl (xsub_cons rfl (xsub_cons rfl (xsub_cons rfl (xsub_cons rfl (xsub_nil)))))))))) ?_
      refine au_psum hflags C hN hbs hJ hq hA hB hK (q := i) hlt (KB := k + 1 + 48) (SB := s9 + 6 + 288) (by omega) (by omega) (fun k633 s633 jc633 jr633 hk633 hs633 => ?_) (ni + 1) 0 (k + 1) (s9 + 6) _ _ (Nat.zero_le _) (by omega) (by omega) (by omega)
      refine a_lload (i := 7) C dL_addsUp_633 rfl ?_
      refine a_aload (i := 4) C dL_addsUp_635 rfl ?_
      refine a_iload (i := 6) C dL_addsUp_637 rfl ?_
      refine a_ialdI C dL_addsUp_639 (xC_L hA.2.2.2 (by decide)) ⟨by omega, by omega⟩ ?_
      refine a_i2l C dL_addsUp_640 ?_
      refine a_lcmp C dL_addsUp_641 ?_
      refine a_if_ne (tgt := 660) C dL_addsUp_642 (by decide) (fun c642 => ?_) (fun c642 => ?_)
      · exact absurd (lcmp_eq.mpr rfl) c642
      · refine a_aload_n (i := 0) C dL_addsUp_645 rfl rfl ?_
        refine a_iload (i := 6) C dL_addsUp_646 rfl ?_
        refine a_callSN (na := 2) C hN dL_addsUp_648 ⟨tb746, tb23, tb747, ⟨by decide, by decide, by decide +kernel⟩⟩ tb745 (w_unallocated hflags hbs hJ hq) rfl rfl (Nat.le_of_ble_eq_true rfl) ⟨Nat.le_of_ble_eq_true rfl, Nat.le_of_ble_eq_true rfl⟩ ⟨show k633 + 1 ≤ 5600 by omega, show s633 + 6 ≤ 33600 by omega⟩ (fun _ h => h.elim) xav_no (fun r648 hp648 hq648 => ?_)
        obtain ⟨rfl, jc648, jr648, rfl⟩ := pP_rd (v' := f 20 i) hq648 (xin_of hlt (by omega)) (by rw [nI_clamp (by omega)])
        refine a_lconst (v := 0) C dL_addsUp_651 (by decide) ?_
        refine a_lcmp C dL_addsUp_652 ?_
        refine a_if_lt (tgt := 660) C dL_addsUp_653 (by decide) (fun c653 => ?_) (fun c653 => ?_)
        · exact absurd (lcmp_lt.mp c653) (by rw [← x64_0, x64_lt, i32_lt, i32_z]; exact Int.not_lt.mpr (kB_20 hG hlt).1)
        · refine a_iconst (v := 1) C dL_addsUp_656 (by decide) ?_
          refine a_goto (tgt := 661) C dL_addsUp_657 (by decide) ?_
          refine a_istore (i := 5) C dL_addsUp_661 (by decide) ?_
          refine a_iinc (i := 6) (v := nI (i + 1)) C dL_addsUp_663 rfl (nI_1 i) (by decide) ?_
          refine a_goto (tgt := 580) C dL_addsUp_666 (by decide) ?_
          refine a_loc [(0, .ref 0), (1, .ref 230), (2, .ref 231), (3, .ref 232), (4, .ref 233), (5, .int 1), (6, .int (nI (i + 1)))] (xsub_cons rfl (xsub_cons rfl (xsub_cons rfl (xsub_cons rfl (xsub_cons rfl (xsub_cons rfl (xsub_cons rfl (xsub_nil)))))))) ?_
          exact ih (i + 1) _ _ _ _ (by omega) (by omega) (by omega) (by omega)
set_option maxRecDepth 100000 in
set_option maxHeartbeats 4000000 in
theorem p_addsUp {l : Launch} {N0 : Nat} {D : va_G} {dT : Nat → ClassId} (hflags : l.stackTraces = false) {h : xH} {n : Nat → Int32} {f : Nat → Nat → Int32} {g : Nat → Nat → Int64} {nc ni np nl q9 : Nat} {jc : Nat → Nat → Int32} {jr : Nat → Int64} {O G P M R : Nat → Int32} (hbs : xBs h) (hJ : JI n f g nc ni np nl q9) (hq : q9 ≤ 500) (hA : xLa h O G P M) (hB : ∀ t, n 1 = nI t → t ≤ 1460 → kB ni t f g) (hK : kK nc ni np nl f g O G P M R) : xMetP l N0 D dT yL_addsUp cL_addsUp 14 (some FieldType.boolean) 12 5600 33600 [.ref 0, .ref 230, .ref 231, .ref 232, .ref 233] (xC h nc ni np nl (n 1) f g jc jr) xNo (fun r h' => r = some (.int 1) ∧ ∃ jc jr, h' = xC h nc ni np nl (n 1) f g jc jr) := by
  have hnl := JI_nl hJ (by omega)
  obtain ⟨hI, ⟨t9, ht, ht2, hG⟩, hLl⟩ := id hJ
  obtain ⟨-, -, -, -, hc6, hi24, hp24, hl16⟩ := id hI
  have hBt := hB t9 ht ht2
  obtain ⟨⟨hkM, hkL, hkV⟩, hk1, hk2, hk3, hk4, hk5, hk6, hk7, hk8⟩ := id hK
  refine xMetP_of hflags (by decide +kernel) (fun _ _ h => h) (Nat.le_of_ble_eq_true rfl) ?_
  intro E C hN hret
  refine a_loc [(0, .ref 0), (1, .ref 230), (2, .ref 231), (3, .ref 232), (4, .ref 233)] (xsub_cons rfl (xsub_cons rfl (xsub_cons rfl (xsub_cons rfl (xsub_cons rfl (xsub_nil)))))) ?_
  refine a_iconst (v := 1) C dL_addsUp_0 (by decide) ?_
  refine a_istore (i := 5) C dL_addsUp_1 (by decide) ?_
  refine a_iconst (v := 0) C dL_addsUp_3 (by decide) ?_
  refine a_istore (i := 6) C dL_addsUp_4 (by decide) ?_
  refine a_loc [(0, .ref 0), (1, .ref 230), (2, .ref 231), (3, .ref 232), (4, .ref 233), (5, .int 1), (6, .int (nI 0))] (xsub_cons rfl (xsub_cons rfl (xsub_cons rfl (xsub_cons rfl (xsub_cons rfl (xsub_cons rfl (xsub_cons rfl (xsub_nil)))))))) ?_
  refine au_cust hflags C hN hbs hJ hq hA hB hK (KB := 360) (SB := 6 * (360)) (by omega) (by omega) (fun k177 s177 jc177 jr177 hk177 hs177 => ?_) (nc + 1) 0 0 0 _ _ (Nat.zero_le _) (by omega) (by omega) (by omega)
  refine a_iconst (v := 0) C dL_addsUp_177 (by decide) ?_
  refine a_istore (i := 6) C dL_addsUp_178 (by decide) ?_
  refine a_loc [(0, .ref 0), (1, .ref 230), (2, .ref 231), (3, .ref 232), (4, .ref 233), (5, .int 1), (6, .int (nI 0))] (xsub_cons rfl (xsub_cons rfl (xsub_cons rfl (xsub_cons rfl (xsub_cons rfl (xsub_cons rfl (xsub_cons rfl (xsub_nil)))))))) ?_
  refine au_inv hflags C hN hbs hJ hq hA hB hK (KB := 360 + 3960) (SB := 6 * (360 + 3960)) (by omega) (by omega) (fun k577 s577 jc577 jr577 hk577 hs577 => ?_) (ni + 1) 0 k177 s177 _ _ (Nat.zero_le _) (by omega) (by omega) (by omega)
  refine a_iconst (v := 0) C dL_addsUp_577 (by decide) ?_
  refine a_istore (i := 6) C dL_addsUp_578 (by decide) ?_
  refine a_loc [(0, .ref 0), (1, .ref 230), (2, .ref 231), (3, .ref 232), (4, .ref 233), (5, .int 1), (6, .int (nI 0))] (xsub_cons rfl (xsub_cons rfl (xsub_cons rfl (xsub_cons rfl (xsub_cons rfl (xsub_cons rfl (xsub_cons rfl (xsub_nil)))))))) ?_
  refine au_pay hflags C hN hbs hJ hq hA hB hK (KB := 360 + 3960 + 1200) (SB := 6 * (360 + 3960 + 1200)) (by omega) (by omega) (fun k669 s669 jc669 jr669 hk669 hs669 => ?_) (np + 1) 0 k577 s577 _ _ (Nat.zero_le _) (by omega) (by omega) (by omega)
  refine a_iload (i := 5) C dL_addsUp_669 rfl ?_
  refine a_if_eq (tgt := 716) C dL_addsUp_671 (by decide) (fun z => absurd z (by decide)) (fun _ => ?_)
  refine a_aload_n (i := 0) C dL_addsUp_674 rfl rfl ?_
  refine a_iconst (v := 0) C dL_addsUp_675 (by decide) ?_
  refine a_callSN (na := 2) C hN dL_addsUp_676 ⟨tb847, tb23, tb848, ⟨by decide, by decide, by decide +kernel⟩⟩ tb846 (w_atLevel hflags hbs hJ hq) rfl rfl (Nat.le_of_ble_eq_true rfl) ⟨Nat.le_of_ble_eq_true rfl, Nat.le_of_ble_eq_true rfl⟩ ⟨show k669 + 1 ≤ 5600 by omega, show s669 + 6 ≤ 33600 by omega⟩ (fun _ h => h.elim) xav_no (fun r676 hp676 hq676 => ?_)
  obtain ⟨rfl, jc676, jr676, rfl⟩ := pP_rd (v' := xsum (xlev f 0) ni) hq676 (by decide) (rfl)
  refine a_aload_n (i := 0) C dL_addsUp_679 rfl rfl ?_
  refine a_iconst (v := 1) C dL_addsUp_680 (by decide) ?_
  refine a_callSN (na := 2) C hN dL_addsUp_681 ⟨tb847, tb23, tb848, ⟨by decide, by decide, by decide +kernel⟩⟩ tb846 (w_atLevel hflags hbs hJ hq) rfl rfl (Nat.le_of_ble_eq_true rfl) ⟨Nat.le_of_ble_eq_true rfl, Nat.le_of_ble_eq_true rfl⟩ ⟨show k669 + 1 + 1 ≤ 5600 by omega, show s669 + 6 + 6 ≤ 33600 by omega⟩ (fun _ h => h.elim) xav_no (fun r681 hp681 hq681 => ?_)
  obtain ⟨rfl, jc681, jr681, rfl⟩ := pP_rd (v' := xsum (xlev f 1) ni) hq681 (by decide) (rfl)
  refine a_ladd C dL_addsUp_684 ?_
  refine a_aload_n (i := 0) C dL_addsUp_685 rfl rfl ?_
  refine a_iconst (v := 2) C dL_addsUp_686 (by decide) ?_
  refine a_callSN (na := 2) C hN dL_addsUp_687 ⟨tb847, tb23, tb848, ⟨by decide, by decide, by decide +kernel⟩⟩ tb846 (w_atLevel hflags hbs hJ hq) rfl rfl (Nat.le_of_ble_eq_true rfl) ⟨Nat.le_of_ble_eq_true rfl, Nat.le_of_ble_eq_true rfl⟩ ⟨show k669 + 1 + 1 + 1 ≤ 5600 by omega, show s669 + 6 + 6 + 6 ≤ 33600 by omega⟩ (fun _ h => h.elim) xav_no (fun r687 hp687 hq687 => ?_)
  obtain ⟨rfl, jc687, jr687, rfl⟩ := pP_rd (v' := xsum (xlev f 2) ni) hq687 (by decide) (rfl)
  refine a_ladd C dL_addsUp_690 ?_
  refine a_aload_n (i := 0) C dL_addsUp_691 rfl rfl ?_
  refine a_iconst (v := 3) C dL_addsUp_692 (by decide) ?_
  refine a_callSN (na := 2) C hN dL_addsUp_693 ⟨tb847, tb23, tb848, ⟨by decide, by decide, by decide +kernel⟩⟩ tb846 (w_atLevel hflags hbs hJ hq) rfl rfl (Nat.le_of_ble_eq_true rfl) ⟨Nat.le_of_ble_eq_true rfl, Nat.le_of_ble_eq_true rfl⟩ ⟨show k669 + 1 + 1 + 1 + 1 ≤ 5600 by omega, show s669 + 6 + 6 + 6 + 6 ≤ 33600 by omega⟩ (fun _ h => h.elim) xav_no (fun r693 hp693 hq693 => ?_)
  obtain ⟨rfl, jc693, jr693, rfl⟩ := pP_rd (v' := xsum (xlev f 3) ni) hq693 (by decide) (rfl)
  refine a_ladd C dL_addsUp_696 ?_
  refine a_aload_n (i := 0) C dL_addsUp_697 rfl rfl ?_
  refine a_iconst (v := 4) C dL_addsUp_698 (by decide) ?_
  refine a_callSN (na := 2) C hN dL_addsUp_699 ⟨tb847, tb23, tb848, ⟨by decide, by decide, by decide +kernel⟩⟩ tb846 (w_atLevel hflags hbs hJ hq) rfl rfl (Nat.le_of_ble_eq_true rfl) ⟨Nat.le_of_ble_eq_true rfl, Nat.le_of_ble_eq_true rfl⟩ ⟨show k669 + 1 + 1 + 1 + 1 + 1 ≤ 5600 by omega, show s669 + 6 + 6 + 6 + 6 + 6 ≤ 33600 by omega⟩ (fun _ h => h.elim) xav_no (fun r699 hp699 hq699 => ?_)
  obtain ⟨rfl, jc699, jr699, rfl⟩ := pP_rd (v' := xsum (xlev f 4) ni) hq699 (by decide) (rfl)
  refine a_ladd C dL_addsUp_702 ?_
  refine a_aload_n (i := 0) C dL_addsUp_703 rfl rfl ?_
  refine a_callV C dL_addsUp_704 cv_X6_invoices tb146 (k_invoices hflags) rfl rfl xC_0 rfl (Nat.le_of_ble_eq_true rfl) ⟨Nat.le_of_ble_eq_true rfl, Nat.le_of_ble_eq_true rfl⟩ ⟨show k669 + 1 + 1 + 1 + 1 + 1 + 0 ≤ 5600 by omega, show s669 + 6 + 6 + 6 + 6 + 6 + 0 ≤ 33600 by omega⟩ (fun _ h => h.elim) xav_no (fun _ _ h => h.elim) (fun r704 hp704 hq704 => ?_)
  obtain ⟨rfl, rfl⟩ := hq704
  refine a_i2l C dL_addsUp_707 ?_
  refine a_lcmp C dL_addsUp_708 ?_
  refine a_if_ne (tgt := 716) C dL_addsUp_709 (by decide) (fun c709 => ?_) (fun c709 => ?_)
  · exact absurd (lcmp_eq.mpr (A_lev hkV hi24)) c709
  · refine a_iconst (v := 1) C dL_addsUp_712 (by decide) ?_
    refine a_goto (tgt := 717) C dL_addsUp_713 (by decide) ?_
    exact a_zret C dL_addsUp_717 (by first | rfl | exact bI_nar) (show k669 + 1 + 1 + 1 + 1 + 1 ≤ 5600 by omega) (show s669 + 6 + 6 + 6 + 6 + 6 ≤ 33600 by omega) (hret _ _ ⟨rfl, _, _, rfl⟩)
