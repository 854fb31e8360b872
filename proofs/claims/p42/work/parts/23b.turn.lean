set_option maxRecDepth 100000 in
set_option maxHeartbeats 4000000 in
theorem au_t4 {E : xEnv} {l : Launch} {N0 : Nat} {D : va_G} {dT : Nat → ClassId} (hflags : l.stackTraces = false) (C : aC E l N0 D dT cL_addsUp yL_addsUp.cls 14 (some FieldType.boolean) [] (xRm 12 5600 33600) xNo) (hN : xNcE E) {h : xH} {n : Nat → Int32} {f : Nat → Nat → Int32} {g : Nat → Nat → Int64} {nc ni np nl q9 : Nat} {O G P M R : Nat → Int32} (hbs : xBs h) (hJ : JI n f g nc ni np nl q9) (hq : q9 ≤ 500) (hA : xLa h O G P M) (hB : ∀ t, n 1 = nI t → t ≤ 1460 → kB ni t f g) (hK : kK nc ni np nl f g O G P M R) {q : Nat} (hq2 : q < ni) {k s9 : Nat} {jc : Nat → Nat → Int32} {jr : Nat → Int64} {KB SB : Nat} (hKB : KB ≤ 5600) (hSB : SB ≤ 33600) (next : ∀ (k s9 : Nat) (jc : Nat → Nat → Int32) (jr : Nat → Int64), k ≤ KB → s9 ≤ SB → aW E k s9 (xC h nc ni np nl (n 1) f g jc jr) 571 [(0, .ref 0), (1, .ref 230), (2, .ref 231), (3, .ref 232), (4, .ref 233), (5, .int 1), (6, .int (nI q))] []) (hk : k + 1 ≤ KB) (hs : s9 + 6 ≤ SB) : aW E k s9 (xC h nc ni np nl (n 1) f g jc jr) 553 [(0, .ref 0), (1, .ref 230), (2, .ref 231), (3, .ref 232), (4, .ref 233), (5, .int 1), (6, .int (nI q)), (7, .long (f 13 q).toInt64), (9, .long (f 13 q).toInt64)] [] := by
  have hnl := JI_nl hJ (by omega)
  obtain ⟨hI, ⟨t9, ht, ht2, hG⟩, hLl⟩ := id hJ
  obtain ⟨-, -, -, -, hc6, hi24, hp24, hl16⟩ := id hI
  have hBt := hB t9 ht ht2
  obtain ⟨⟨hkM, hkL, hkV⟩, hk1, hk2, hk3, hk4, hk5, hk6, hk7, hk8⟩ := id hK
  refine a_aload_n (i := 0) C dL_addsUp_553 rfl rfl ?_
  refine a_iload (i := 6) C dL_addsUp_554 rfl ?_
  refine a_callSN (na := 2) C hN dL_addsUp_556 ⟨tb776, tb23, tb777, ⟨by decide, by decide, by decide +kernel⟩⟩ tb775 (w_accrued hflags hbs hJ hq) rfl rfl (Nat.le_of_ble_eq_true rfl) ⟨Nat.le_of_ble_eq_true rfl, Nat.le_of_ble_eq_true rfl⟩ ⟨show k + 1 ≤ 5600 by omega, show s9 + 6 ≤ 33600 by omega⟩ (fun _ h => h.elim) xav_no (fun r556 hp556 hq556 => ?_)
  obtain ⟨rfl, jc556, jr556, rfl⟩ := pP_rd (v' := xac f g q) hq556 (xin_of hq2 (by omega)) (by rw [nI_clamp (by omega)])
  refine a_lconst (v := 0) C dL_addsUp_559 (by decide) ?_
  refine a_lcmp C dL_addsUp_560 ?_
  refine a_if_lt (tgt := 568) C dL_addsUp_561 (by decide) (fun c561 => ?_) (fun c561 => ?_)
  · exact absurd (lcmp_lt.mp c561) (by rw [← x64_0, x64_lt, i32_lt, i32_z]; exact Int.not_lt.mpr (xac_z hG.2.2.2.2 ht2 hq2).1)
  · refine a_iconst (v := 1) C dL_addsUp_564 (by decide) ?_
    refine a_goto (tgt := 569) C dL_addsUp_565 (by decide) ?_
    refine a_istore (i := 5) C dL_addsUp_569 (by decide) ?_
    refine a_loc [(0, .ref 0), (1, .ref 230), (2, .ref 231), (3, .ref 232), (4, .ref 233), (5, .int 1), (6, .int (nI q))] (xsub_cons rfl (xsub_cons rfl (xsub_cons rfl (xsub_cons rfl (xsub_cons rfl (xsub_cons rfl (xsub_cons rfl (xsub_nil)))))))) ?_
    exact next _ _ _ _ (by omega) (by omega)
set_option maxRecDepth 100000 in
set_option maxHeartbeats 4000000 in
theorem au_t3b {E : xEnv} {l : Launch} {N0 : Nat} {D : va_G} {dT : Nat → ClassId} (hflags : l.stackTraces = false) (C : aC E l N0 D dT cL_addsUp yL_addsUp.cls 14 (some FieldType.boolean) [] (xRm 12 5600 33600) xNo) (hN : xNcE E) {h : xH} {n : Nat → Int32} {f : Nat → Nat → Int32} {g : Nat → Nat → Int64} {nc ni np nl q9 : Nat} {O G P M R : Nat → Int32} (hbs : xBs h) (hJ : JI n f g nc ni np nl q9) (hq : q9 ≤ 500) (hA : xLa h O G P M) (hB : ∀ t, n 1 = nI t → t ≤ 1460 → kB ni t f g) (hK : kK nc ni np nl f g O G P M R) {q : Nat} (hq2 : q < ni) {k s9 : Nat} {jc : Nat → Nat → Int32} {jr : Nat → Int64} {KB SB : Nat} (hKB : KB ≤ 5600) (hSB : SB ≤ 33600) (next : ∀ (k s9 : Nat) (jc : Nat → Nat → Int32) (jr : Nat → Int64), k ≤ KB → s9 ≤ SB → aW E k s9 (xC h nc ni np nl (n 1) f g jc jr) 571 [(0, .ref 0), (1, .ref 230), (2, .ref 231), (3, .ref 232), (4, .ref 233), (5, .int 1), (6, .int (nI q))] []) (hk : k + 3 ≤ KB) (hs : s9 + 18 ≤ SB) : aW E k s9 (xC h nc ni np nl (n 1) f g jc jr) 531 [(0, .ref 0), (1, .ref 230), (2, .ref 231), (3, .ref 232), (4, .ref 233), (5, .int 1), (6, .int (nI q)), (7, .long (f 13 q).toInt64), (9, .long (f 13 q).toInt64)] [] := by
  have hnl := JI_nl hJ (by omega)
  obtain ⟨hI, ⟨t9, ht, ht2, hG⟩, hLl⟩ := id hJ
  obtain ⟨-, -, -, -, hc6, hi24, hp24, hl16⟩ := id hI
  have hBt := hB t9 ht ht2
  obtain ⟨⟨hkM, hkL, hkV⟩, hk1, hk2, hk3, hk4, hk5, hk6, hk7, hk8⟩ := id hK
  refine a_aload_n (i := 0) C dL_addsUp_531 rfl rfl ?_
  refine a_iload (i := 6) C dL_addsUp_532 rfl ?_
  refine a_callSN (na := 2) C hN dL_addsUp_534 ⟨tb711, tb23, tb712, ⟨by decide, by decide, by decide +kernel⟩⟩ tb710 (w_interest hflags hbs hJ hq) rfl rfl (Nat.le_of_ble_eq_true rfl) ⟨Nat.le_of_ble_eq_true rfl, Nat.le_of_ble_eq_true rfl⟩ ⟨show k + 1 ≤ 5600 by omega, show s9 + 6 ≤ 33600 by omega⟩ (fun _ h => h.elim) xav_no (fun r534 hp534 hq534 => ?_)
  obtain ⟨rfl, jc534, jr534, rfl⟩ := pP_rd (v' := bI (¬ f 16 q = 0)) hq534 (xin_of hq2 (by omega)) (by rw [nI_clamp (by omega)])
  refine a_lconst (v := 0) C dL_addsUp_537 (by decide) ?_
  refine a_lcmp C dL_addsUp_538 ?_
  refine a_if_eq (tgt := 553) C dL_addsUp_539 (by decide) (fun c539 => ?_) (fun c539 => ?_)
  · refine a_loc [(0, .ref 0), (1, .ref 230), (2, .ref 231), (3, .ref 232), (4, .ref 233), (5, .int 1), (6, .int (nI q)), (7, .long (f 13 q).toInt64), (9, .long (f 13 q).toInt64)] (xsub_cons rfl (xsub_cons rfl (xsub_cons rfl (xsub_cons rfl (xsub_cons rfl (xsub_cons rfl (xsub_cons rfl (xsub_cons rfl (xsub_cons rfl (xsub_nil)))))))))) ?_
    exact au_t4 hflags C hN hbs hJ hq hA hB hK hq2 hKB hSB next (by omega) (by omega)
  · refine a_aload_n (i := 0) C dL_addsUp_542 rfl rfl ?_
    refine a_iload (i := 6) C dL_addsUp_543 rfl ?_
    refine a_callSN (na := 2) C hN dL_addsUp_545 ⟨tb776, tb23, tb777, ⟨by decide, by decide, by decide +kernel⟩⟩ tb775 (w_accrued hflags hbs hJ hq) rfl rfl (Nat.le_of_ble_eq_true rfl) ⟨Nat.le_of_ble_eq_true rfl, Nat.le_of_ble_eq_true rfl⟩ ⟨show k + 1 + 1 ≤ 5600 by omega, show s9 + 6 + 6 ≤ 33600 by omega⟩ (fun _ h => h.elim) xav_no (fun r545 hp545 hq545 => ?_)
    obtain ⟨rfl, jc545, jr545, rfl⟩ := pP_rd (v' := xac f g q) hq545 (xin_of hq2 (by omega)) (by rw [nI_clamp (by omega)])
    refine a_lconst (v := 0) C dL_addsUp_548 (by decide) ?_
    refine a_lcmp C dL_addsUp_549 ?_
    refine a_if_ne (tgt := 568) C dL_addsUp_550 (by decide) (fun c550 => ?_) (fun c550 => ?_)
    · exact absurd (lcmp_eq.mpr (show (xac f g q).toInt64 = 0 by rw [A_int hG ht2 (hk7 q hq2 (fun z => c539 (lcmp_eq.mpr (by rw [bI_f (fun y => y z)]; rfl)))) hq2]; rfl)) c550
    · refine a_loc [(0, .ref 0), (1, .ref 230), (2, .ref 231), (3, .ref 232), (4, .ref 233), (5, .int 1), (6, .int (nI q)), (7, .long (f 13 q).toInt64), (9, .long (f 13 q).toInt64)] (xsub_cons rfl (xsub_cons rfl (xsub_cons rfl (xsub_cons rfl (xsub_cons rfl (xsub_cons rfl (xsub_cons rfl (xsub_cons rfl (xsub_cons rfl (xsub_nil)))))))))) ?_
      exact au_t4 hflags C hN hbs hJ hq hA hB hK hq2 hKB hSB next (by omega) (by omega)
set_option maxRecDepth 100000 in
set_option maxHeartbeats 4000000 in
theorem au_t3 {E : xEnv} {l : Launch} {N0 : Nat} {D : va_G} {dT : Nat → ClassId} (hflags : l.stackTraces = false) (C : aC E l N0 D dT cL_addsUp yL_addsUp.cls 14 (some FieldType.boolean) [] (xRm 12 5600 33600) xNo) (hN : xNcE E) {h : xH} {n : Nat → Int32} {f : Nat → Nat → Int32} {g : Nat → Nat → Int64} {nc ni np nl q9 : Nat} {O G P M R : Nat → Int32} (hbs : xBs h) (hJ : JI n f g nc ni np nl q9) (hq : q9 ≤ 500) (hA : xLa h O G P M) (hB : ∀ t, n 1 = nI t → t ≤ 1460 → kB ni t f g) (hK : kK nc ni np nl f g O G P M R) {q : Nat} (hq2 : q < ni) {k s9 : Nat} {jc : Nat → Nat → Int32} {jr : Nat → Int64} {KB SB : Nat} (hKB : KB ≤ 5600) (hSB : SB ≤ 33600) (next : ∀ (k s9 : Nat) (jc : Nat → Nat → Int32) (jr : Nat → Int64), k ≤ KB → s9 ≤ SB → aW E k s9 (xC h nc ni np nl (n 1) f g jc jr) 571 [(0, .ref 0), (1, .ref 230), (2, .ref 231), (3, .ref 232), (4, .ref 233), (5, .int 1), (6, .int (nI q))] []) (hk : k + 7 ≤ KB) (hs : s9 + 42 ≤ SB) : aW E k s9 (xC h nc ni np nl (n 1) f g jc jr) 457 [(0, .ref 0), (1, .ref 230), (2, .ref 231), (3, .ref 232), (4, .ref 233), (5, .int 1), (6, .int (nI q)), (7, .long (f 13 q).toInt64), (9, .long (f 13 q).toInt64)] [] := by
  have hnl := JI_nl hJ (by omega)
  obtain ⟨hI, ⟨t9, ht, ht2, hG⟩, hLl⟩ := id hJ
  obtain ⟨-, -, -, -, hc6, hi24, hp24, hl16⟩ := id hI
  have hBt := hB t9 ht ht2
  obtain ⟨⟨hkM, hkL, hkV⟩, hk1, hk2, hk3, hk4, hk5, hk6, hk7, hk8⟩ := id hK
  refine a_aload_n (i := 0) C dL_addsUp_457 rfl rfl ?_
  refine a_iload (i := 6) C dL_addsUp_458 rfl ?_
  refine a_callSN (na := 2) C hN dL_addsUp_460 ⟨tb911, tb23, tb912, ⟨by decide, by decide, by decide +kernel⟩⟩ tb910 (w_bucket hflags hbs hJ hq) rfl rfl (Nat.le_of_ble_eq_true rfl) ⟨Nat.le_of_ble_eq_true rfl, Nat.le_of_ble_eq_true rfl⟩ ⟨show k + 1 ≤ 5600 by omega, show s9 + 6 ≤ 33600 by omega⟩ (fun _ h => h.elim) xav_no (fun r460 hp460 hq460 => ?_)
  obtain ⟨rfl, jc460, jr460, rfl⟩ := pP_rd (v' := xbk (n 1 - f 12 q)) hq460 (xin_of hq2 (by omega)) (by rw [nI_clamp (by omega)])
  refine a_aload_n (i := 0) C dL_addsUp_463 rfl rfl ?_
  refine a_callV C dL_addsUp_464 cv_X6_today tb134 (k_today hflags) rfl rfl xC_0 rfl (Nat.le_of_ble_eq_true rfl) ⟨Nat.le_of_ble_eq_true rfl, Nat.le_of_ble_eq_true rfl⟩ ⟨show k + 1 + 0 ≤ 5600 by omega, show s9 + 6 + 0 ≤ 33600 by omega⟩ (fun _ h => h.elim) xav_no (fun _ _ h => h.elim) (fun r464 hp464 hq464 => ?_)
  obtain ⟨rfl, rfl⟩ := hq464
  refine a_i2l C dL_addsUp_467 ?_
  refine a_aload_n (i := 0) C dL_addsUp_468 rfl rfl ?_
  refine a_iload (i := 6) C dL_addsUp_469 rfl ?_
  refine a_callSN (na := 2) C hN dL_addsUp_471 ⟨tb903, tb23, tb904, ⟨by decide, by decide, by decide +kernel⟩⟩ tb902 (w_due hflags hbs hJ hq) rfl rfl (Nat.le_of_ble_eq_true rfl) ⟨Nat.le_of_ble_eq_true rfl, Nat.le_of_ble_eq_true rfl⟩ ⟨show k + 1 + 1 ≤ 5600 by omega, show s9 + 6 + 6 ≤ 33600 by omega⟩ (fun _ h => h.elim) xav_no (fun r471 hp471 hq471 => ?_)
  obtain ⟨rfl, jc471, jr471, rfl⟩ := pP_rd (v' := f 12 q) hq471 (xin_of hq2 (by omega)) (by rw [nI_clamp (by omega)])
  refine a_lcmp C dL_addsUp_474 ?_
  refine a_if_gt (tgt := 482) C dL_addsUp_475 (by decide) (fun c475 => ?_) (fun c475 => ?_)
  · refine a_aload_n (i := 0) C dL_addsUp_482 rfl rfl ?_
    refine a_callV C dL_addsUp_483 cv_X6_today tb134 (k_today hflags) rfl rfl xC_0 rfl (Nat.le_of_ble_eq_true rfl) ⟨Nat.le_of_ble_eq_true rfl, Nat.le_of_ble_eq_true rfl⟩ ⟨show k + 1 + 1 + 0 ≤ 5600 by omega, show s9 + 6 + 6 + 0 ≤ 33600 by omega⟩ (fun _ h => h.elim) xav_no (fun _ _ h => h.elim) (fun r483 hp483 hq483 => ?_)
    obtain ⟨rfl, rfl⟩ := hq483
    refine a_i2l C dL_addsUp_486 ?_
    refine a_aload_n (i := 0) C dL_addsUp_487 rfl rfl ?_
    refine a_iload (i := 6) C dL_addsUp_488 rfl ?_
    refine a_callSN (na := 2) C hN dL_addsUp_490 ⟨tb903, tb23, tb904, ⟨by decide, by decide, by decide +kernel⟩⟩ tb902 (w_due hflags hbs hJ hq) rfl rfl (Nat.le_of_ble_eq_true rfl) ⟨Nat.le_of_ble_eq_true rfl, Nat.le_of_ble_eq_true rfl⟩ ⟨show k + 1 + 1 + 1 ≤ 5600 by omega, show s9 + 6 + 6 + 6 ≤ 33600 by omega⟩ (fun _ h => h.elim) xav_no (fun r490 hp490 hq490 => ?_)
    obtain ⟨rfl, jc490, jr490, rfl⟩ := pP_rd (v' := f 12 q) hq490 (xin_of hq2 (by omega)) (by rw [nI_clamp (by omega)])
    refine a_lsub C dL_addsUp_493 ?_
    refine a_ldc2 C dL_addsUp_494 tb917 ?_
    refine a_lcmp C dL_addsUp_497 ?_
    refine a_if_le (tgt := 507) C dL_addsUp_498 (by decide) (fun c498 => ?_) (fun c498 => ?_)
    · refine a_aload_n (i := 0) C dL_addsUp_507 rfl rfl ?_
      refine a_callV C dL_addsUp_508 cv_X6_today tb134 (k_today hflags) rfl rfl xC_0 rfl (Nat.le_of_ble_eq_true rfl) ⟨Nat.le_of_ble_eq_true rfl, Nat.le_of_ble_eq_true rfl⟩ ⟨show k + 1 + 1 + 1 + 0 ≤ 5600 by omega, show s9 + 6 + 6 + 6 + 0 ≤ 33600 by omega⟩ (fun _ h => h.elim) xav_no (fun _ _ h => h.elim) (fun r508 hp508 hq508 => ?_)
      obtain ⟨rfl, rfl⟩ := hq508
      refine a_i2l C dL_addsUp_511 ?_
      refine a_aload_n (i := 0) C dL_addsUp_512 rfl rfl ?_
      refine a_iload (i := 6) C dL_addsUp_513 rfl ?_
      refine a_callSN (na := 2) C hN dL_addsUp_515 ⟨tb903, tb23, tb904, ⟨by decide, by decide, by decide +kernel⟩⟩ tb902 (w_due hflags hbs hJ hq) rfl rfl (Nat.le_of_ble_eq_true rfl) ⟨Nat.le_of_ble_eq_true rfl, Nat.le_of_ble_eq_true rfl⟩ ⟨show k + 1 + 1 + 1 + 1 ≤ 5600 by omega, show s9 + 6 + 6 + 6 + 6 ≤ 33600 by omega⟩ (fun _ h => h.elim) xav_no (fun r515 hp515 hq515 => ?_)
      obtain ⟨rfl, jc515, jr515, rfl⟩ := pP_rd (v' := f 12 q) hq515 (xin_of hq2 (by omega)) (by rw [nI_clamp (by omega)])
      refine a_lsub C dL_addsUp_518 ?_
      refine a_ldc2 C dL_addsUp_519 tb918 ?_
      refine a_ladd C dL_addsUp_522 ?_
      refine a_ldc2 C dL_addsUp_523 tb919 ?_
      refine a_ldiv C dL_addsUp_526 (by decide) ?_
      refine a_lcmp C dL_addsUp_527 ?_
      refine a_if_ne (tgt := 568) C dL_addsUp_528 (by decide) (fun c528 => ?_) (fun c528 => ?_)
      · exact (by first | exact absurd (lcmp_eq.mpr (A_bk0 ht ht2 (hk5 q hq2) (mt lcmp_gt.mpr c475))) c528 | exact absurd (lcmp_eq.mpr (A_bk4 ht ht2 (hk5 q hq2) (Classical.not_not.mp (mt lcmp_le.mpr c498)))) c528 | exact absurd (lcmp_eq.mpr (A_bk ht ht2 (hk5 q hq2) (lcmp_gt.mp c475) (lcmp_le.mp c498))) c528)
      · refine a_loc [(0, .ref 0), (1, .ref 230), (2, .ref 231), (3, .ref 232), (4, .ref 233), (5, .int 1), (6, .int (nI q)), (7, .long (f 13 q).toInt64), (9, .long (f 13 q).toInt64)] (xsub_cons rfl (xsub_cons rfl (xsub_cons rfl (xsub_cons rfl (xsub_cons rfl (xsub_cons rfl (xsub_cons rfl (xsub_cons rfl (xsub_cons rfl (xsub_nil)))))))))) ?_
        exact au_t3b hflags C hN hbs hJ hq hA hB hK hq2 hKB hSB next (by omega) (by omega)
    · refine a_ldc2 C dL_addsUp_501 tb885 ?_
      refine a_goto (tgt := 527) C dL_addsUp_504 (by decide) ?_
      refine a_lcmp C dL_addsUp_527 ?_
      refine a_if_ne (tgt := 568) C dL_addsUp_528 (by decide) (fun c528 => ?_) (fun c528 => ?_)
      · exact (by first | exact absurd (lcmp_eq.mpr (A_bk0 ht ht2 (hk5 q hq2) (mt lcmp_gt.mpr c475))) c528 | exact absurd (lcmp_eq.mpr (A_bk4 ht ht2 (hk5 q hq2) (Classical.not_not.mp (mt lcmp_le.mpr c498)))) c528 | exact absurd (lcmp_eq.mpr (A_bk ht ht2 (hk5 q hq2) (lcmp_gt.mp c475) (lcmp_le.mp c498))) c528)
      · refine a_loc [(0, .ref 0), (1, .ref 230), (2, .ref 231), (3, .ref 232), (4, .ref 233), (5, .int 1), (6, .int (nI q)), (7, .long (f 13 q).toInt64), (9, .long (f 13 q).toInt64)] (xsub_cons rfl (xsub_cons rfl (xsub_cons rfl (xsub_cons rfl (xsub_cons rfl (xsub_cons rfl (xsub_cons rfl (xsub_cons rfl (xsub_cons rfl (xsub_nil)))))))))) ?_
        exact au_t3b hflags C hN hbs hJ hq hA hB hK hq2 hKB hSB next (by omega) (by omega)
  · refine a_lconst (v := 0) C dL_addsUp_478 (by decide) ?_
    refine a_goto (tgt := 527) C dL_addsUp_479 (by decide) ?_
    refine a_lcmp C dL_addsUp_527 ?_
    refine a_if_ne (tgt := 568) C dL_addsUp_528 (by decide) (fun c528 => ?_) (fun c528 => ?_)
    · exact (by first | exact absurd (lcmp_eq.mpr (A_bk0 ht ht2 (hk5 q hq2) (mt lcmp_gt.mpr c475))) c528 | exact absurd (lcmp_eq.mpr (A_bk4 ht ht2 (hk5 q hq2) (Classical.not_not.mp (mt lcmp_le.mpr c498)))) c528 | exact absurd (lcmp_eq.mpr (A_bk ht ht2 (hk5 q hq2) (lcmp_gt.mp c475) (lcmp_le.mp c498))) c528)
    · refine a_loc [(0, .ref 0), (1, .ref 230), (2, .ref 231), (3, .ref 232), (4, .ref 233), (5, .int 1), (6, .int (nI q)), (7, .long (f 13 q).toInt64), (9, .long (f 13 q).toInt64)] (xsub_cons rfl (xsub_cons rfl (xsub_cons rfl (xsub_cons rfl (xsub_cons rfl (xsub_cons rfl (xsub_cons rfl (xsub_cons rfl (xsub_cons rfl (xsub_nil)))))))))) ?_
      exact au_t3b hflags C hN hbs hJ hq hA hB hK hq2 hKB hSB next (by omega) (by omega)
set_option maxRecDepth 100000 in
set_option maxHeartbeats 4000000 in
theorem au_t2 {E : xEnv} {l : Launch} {N0 : Nat} {D : va_G} {dT : Nat → ClassId} (hflags : l.stackTraces = false) (C : aC E l N0 D dT cL_addsUp yL_addsUp.cls 14 (some FieldType.boolean) [] (xRm 12 5600 33600) xNo) (hN : xNcE E) {h : xH} {n : Nat → Int32} {f : Nat → Nat → Int32} {g : Nat → Nat → Int64} {nc ni np nl q9 : Nat} {O G P M R : Nat → Int32} (hbs : xBs h) (hJ : JI n f g nc ni np nl q9) (hq : q9 ≤ 500) (hA : xLa h O G P M) (hB : ∀ t, n 1 = nI t → t ≤ 1460 → kB ni t f g) (hK : kK nc ni np nl f g O G P M R) {q : Nat} (hq2 : q < ni) {k s9 : Nat} {jc : Nat → Nat → Int32} {jr : Nat → Int64} {rm : Int32} {KB SB : Nat} (hKB : KB ≤ 5600) (hSB : SB ≤ 33600) (next : ∀ (k s9 : Nat) (jc : Nat → Nat → Int32) (jr : Nat → Int64), k ≤ KB → s9 ≤ SB → aW E k s9 (xC h nc ni np nl (n 1) f g jc jr) 571 [(0, .ref 0), (1, .ref 230), (2, .ref 231), (3, .ref 232), (4, .ref 233), (5, .int 1), (6, .int (nI q))] []) (hk : k + 11 ≤ KB) (hs : s9 + 66 ≤ SB) (hR : (rm = 1 ∧ xrm f q) ∨ (rm = 0 ∧ ¬ xrm f q)) : aW E k s9 (xC h nc ni np nl (n 1) f g jc jr) 401 [(0, .ref 0), (1, .ref 230), (2, .ref 231), (3, .ref 232), (4, .ref 233), (5, .int 1), (6, .int (nI q)), (7, .long (f 13 q).toInt64), (9, .long (f 13 q).toInt64), (11, .int rm)] [] := by
  have hnl := JI_nl hJ (by omega)
  obtain ⟨hI, ⟨t9, ht, ht2, hG⟩, hLl⟩ := id hJ
  obtain ⟨-, -, -, -, hc6, hi24, hp24, hl16⟩ := id hI
  have hBt := hB t9 ht ht2
  obtain ⟨⟨hkM, hkL, hkV⟩, hk1, hk2, hk3, hk4, hk5, hk6, hk7, hk8⟩ := id hK
  obtain ⟨X, hX⟩ : ∃ X, xdr n f q = X := ⟨_, rfl⟩
  refine a_iload (i := 11) C dL_addsUp_401 rfl ?_
  refine a_if_eq (tgt := 444) C dL_addsUp_403 (by decide) (fun c403 => ?_) (fun c403 => ?_)
  · refine a_aload_n (i := 0) C dL_addsUp_444 rfl rfl ?_
    refine a_iload (i := 6) C dL_addsUp_445 rfl ?_
    refine a_callSN (na := 2) C hN dL_addsUp_447 ⟨tb753, tb23, tb754, ⟨by decide, by decide, by decide +kernel⟩⟩ tb752 (w_toReminder hflags hbs hJ hq) rfl rfl (Nat.le_of_ble_eq_true rfl) ⟨Nat.le_of_ble_eq_true rfl, Nat.le_of_ble_eq_true rfl⟩ ⟨show k + 1 ≤ 5600 by omega, show s9 + 6 ≤ 33600 by omega⟩ (fun _ h => h.elim) xav_no (fun r447 hp447 hq447 => ?_)
    obtain ⟨rfl, jc447, jr447, rfl⟩ := pP_rd (v' := X) hq447 (xin_of hq2 (by omega)) (by rw [nI_clamp (by omega), hX])
    refine a_ldc2 C dL_addsUp_450 tb909 ?_
    refine a_lcmp C dL_addsUp_453 ?_
    refine a_if_ne (tgt := 568) C dL_addsUp_454 (by decide) (fun c454 => ?_) (fun c454 => ?_)
    · exact absurd (lcmp_eq.mpr (by rw [← hX]; exact A_m0 (A_rn hR c403))) c454
    · refine a_loc [(0, .ref 0), (1, .ref 230), (2, .ref 231), (3, .ref 232), (4, .ref 233), (5, .int 1), (6, .int (nI q)), (7, .long (f 13 q).toInt64), (9, .long (f 13 q).toInt64)] (xsub_cons rfl (xsub_cons rfl (xsub_cons rfl (xsub_cons rfl (xsub_cons rfl (xsub_cons rfl (xsub_cons rfl (xsub_cons rfl (xsub_cons rfl (xsub_nil)))))))))) ?_
      exact au_t3 hflags C hN hbs hJ hq hA hB hK hq2 hKB hSB next (by omega) (by omega)
  · refine a_aload_n (i := 0) C dL_addsUp_406 rfl rfl ?_
    refine a_iload (i := 6) C dL_addsUp_407 rfl ?_
    refine a_callSN (na := 2) C hN dL_addsUp_409 ⟨tb753, tb23, tb754, ⟨by decide, by decide, by decide +kernel⟩⟩ tb752 (w_toReminder hflags hbs hJ hq) rfl rfl (Nat.le_of_ble_eq_true rfl) ⟨Nat.le_of_ble_eq_true rfl, Nat.le_of_ble_eq_true rfl⟩ ⟨show k + 1 ≤ 5600 by omega, show s9 + 6 ≤ 33600 by omega⟩ (fun _ h => h.elim) xav_no (fun r409 hp409 hq409 => ?_)
    obtain ⟨rfl, jc409, jr409, rfl⟩ := pP_rd (v' := X) hq409 (xin_of hq2 (by omega)) (by rw [nI_clamp (by omega), hX])
    refine a_lconst (v := 1) C dL_addsUp_412 (by decide) ?_
    refine a_lcmp C dL_addsUp_413 ?_
    refine a_if_lt (tgt := 568) C dL_addsUp_414 (by decide) (fun c414 => ?_) (fun c414 => ?_)
    · exact absurd (lcmp_lt.mp c414) (A_m1 (by rw [← hX]; exact (A_rem hG ht ht2 hc6 hk5 hk6 hq2 (A_rp hR c403)).1))
    · refine a_aload_n (i := 0) C dL_addsUp_417 rfl rfl ?_
      refine a_iload (i := 6) C dL_addsUp_418 rfl ?_
      refine a_callSN (na := 2) C hN dL_addsUp_420 ⟨tb753, tb23, tb754, ⟨by decide, by decide, by decide +kernel⟩⟩ tb752 (w_toReminder hflags hbs hJ hq) rfl rfl (Nat.le_of_ble_eq_true rfl) ⟨Nat.le_of_ble_eq_true rfl, Nat.le_of_ble_eq_true rfl⟩ ⟨show k + 1 + 1 ≤ 5600 by omega, show s9 + 6 + 6 ≤ 33600 by omega⟩ (fun _ h => h.elim) xav_no (fun r420 hp420 hq420 => ?_)
      obtain ⟨rfl, jc420, jr420, rfl⟩ := pP_rd (v' := X) hq420 (xin_of hq2 (by omega)) (by rw [nI_clamp (by omega), hX])
      refine a_aload_n (i := 0) C dL_addsUp_423 rfl rfl ?_
      refine a_iload (i := 6) C dL_addsUp_424 rfl ?_
      refine a_callSN (na := 2) C hN dL_addsUp_426 ⟨tb903, tb23, tb904, ⟨by decide, by decide, by decide +kernel⟩⟩ tb902 (w_due hflags hbs hJ hq) rfl rfl (Nat.le_of_ble_eq_true rfl) ⟨Nat.le_of_ble_eq_true rfl, Nat.le_of_ble_eq_true rfl⟩ ⟨show k + 1 + 1 + 1 ≤ 5600 by omega, show s9 + 6 + 6 + 6 ≤ 33600 by omega⟩ (fun _ h => h.elim) xav_no (fun r426 hp426 hq426 => ?_)
      obtain ⟨rfl, jc426, jr426, rfl⟩ := pP_rd (v' := f 12 q) hq426 (xin_of hq2 (by omega)) (by rw [nI_clamp (by omega)])
      refine a_aload_n (i := 0) C dL_addsUp_429 rfl rfl ?_
      refine a_callV C dL_addsUp_430 cv_X6_today tb134 (k_today hflags) rfl rfl xC_0 rfl (Nat.le_of_ble_eq_true rfl) ⟨Nat.le_of_ble_eq_true rfl, Nat.le_of_ble_eq_true rfl⟩ ⟨show k + 1 + 1 + 1 + 0 ≤ 5600 by omega, show s9 + 6 + 6 + 6 + 0 ≤ 33600 by omega⟩ (fun _ h => h.elim) xav_no (fun _ _ h => h.elim) (fun r430 hp430 hq430 => ?_)
      obtain ⟨rfl, rfl⟩ := hq430
      refine a_st (S' := [.int (n 1), .long (f 12 q).toInt64, .long X.toInt64]) rfl ?_
      refine a_i2l C dL_addsUp_433 ?_
      refine a_lsub C dL_addsUp_434 ?_
      refine a_lconst (v := 1) C dL_addsUp_435 (by decide) ?_
      refine a_ladd C dL_addsUp_436 ?_
      refine a_lcmp C dL_addsUp_437 ?_
      refine a_if_lt (tgt := 568) C dL_addsUp_438 (by decide) (fun c438 => ?_) (fun c438 => ?_)
      · exact absurd (lcmp_lt.mp c438) (A_m2 ht ht2 (hk5 q hq2) (by rw [← hX]; exact (A_rem hG ht ht2 hc6 hk5 hk6 hq2 (A_rp hR c403)).2.1))
      · refine a_goto (tgt := 457) C dL_addsUp_441 (by decide) ?_
        refine a_loc [(0, .ref 0), (1, .ref 230), (2, .ref 231), (3, .ref 232), (4, .ref 233), (5, .int 1), (6, .int (nI q)), (7, .long (f 13 q).toInt64), (9, .long (f 13 q).toInt64)] (xsub_cons rfl (xsub_cons rfl (xsub_cons rfl (xsub_cons rfl (xsub_cons rfl (xsub_cons rfl (xsub_cons rfl (xsub_cons rfl (xsub_cons rfl (xsub_nil)))))))))) ?_
        exact au_t3 hflags C hN hbs hJ hq hA hB hK hq2 hKB hSB next (by omega) (by omega)
set_option maxRecDepth 100000 in
set_option maxHeartbeats 4000000 in
theorem au_t1 {E : xEnv} {l : Launch} {N0 : Nat} {D : va_G} {dT : Nat → ClassId} (hflags : l.stackTraces = false) (C : aC E l N0 D dT cL_addsUp yL_addsUp.cls 14 (some FieldType.boolean) [] (xRm 12 5600 33600) xNo) (hN : xNcE E) {h : xH} {n : Nat → Int32} {f : Nat → Nat → Int32} {g : Nat → Nat → Int64} {nc ni np nl q9 : Nat} {O G P M R : Nat → Int32} (hbs : xBs h) (hJ : JI n f g nc ni np nl q9) (hq : q9 ≤ 500) (hA : xLa h O G P M) (hB : ∀ t, n 1 = nI t → t ≤ 1460 → kB ni t f g) (hK : kK nc ni np nl f g O G P M R) {q : Nat} (hq2 : q < ni) {k s9 : Nat} {jc : Nat → Nat → Int32} {jr : Nat → Int64} {rm : Int32} {KB SB : Nat} (hKB : KB ≤ 5600) (hSB : SB ≤ 33600) (next : ∀ (k s9 : Nat) (jc : Nat → Nat → Int32) (jr : Nat → Int64), k ≤ KB → s9 ≤ SB → aW E k s9 (xC h nc ni np nl (n 1) f g jc jr) 571 [(0, .ref 0), (1, .ref 230), (2, .ref 231), (3, .ref 232), (4, .ref 233), (5, .int 1), (6, .int (nI q))] []) (hk : k + 14 ≤ KB) (hs : s9 + 84 ≤ SB) (hR : (rm = 1 ∧ xrm f q) ∨ (rm = 0 ∧ ¬ xrm f q)) : aW E k s9 (xC h nc ni np nl (n 1) f g jc jr) 334 [(0, .ref 0), (1, .ref 230), (2, .ref 231), (3, .ref 232), (4, .ref 233), (5, .int 1), (6, .int (nI q)), (7, .long (f 13 q).toInt64), (9, .long (f 13 q).toInt64), (11, .int rm)] [] := by
  have hnl := JI_nl hJ (by omega)
  obtain ⟨hI, ⟨t9, ht, ht2, hG⟩, hLl⟩ := id hJ
  obtain ⟨-, -, -, -, hc6, hi24, hp24, hl16⟩ := id hI
  have hBt := hB t9 ht ht2
  obtain ⟨⟨hkM, hkL, hkV⟩, hk1, hk2, hk3, hk4, hk5, hk6, hk7, hk8⟩ := id hK
  refine a_iload (i := 5) C dL_addsUp_334 rfl ?_
  refine a_if_eq (tgt := 568) C dL_addsUp_336 (by decide) (fun z => absurd z (by decide)) (fun _ => ?_)
  refine a_lload (i := 9) C dL_addsUp_339 rfl ?_
  refine a_lload (i := 7) C dL_addsUp_341 rfl ?_
  refine a_lcmp C dL_addsUp_343 ?_
  refine a_if_ne (tgt := 568) C dL_addsUp_344 (by decide) (fun c344 => ?_) (fun c344 => ?_)
  · exact absurd (lcmp_eq.mpr rfl) c344
  · refine a_aload_n (i := 0) C dL_addsUp_347 rfl rfl ?_
    refine a_iload (i := 6) C dL_addsUp_348 rfl ?_
    refine a_callSN (na := 2) C hN dL_addsUp_350 ⟨tb887, tb23, tb888, ⟨by decide, by decide, by decide +kernel⟩⟩ tb886 (w_byLedger hflags hbs hJ hq) rfl rfl (Nat.le_of_ble_eq_true rfl) ⟨Nat.le_of_ble_eq_true rfl, Nat.le_of_ble_eq_true rfl⟩ ⟨show k + 1 ≤ 5600 by omega, show s9 + 6 ≤ 33600 by omega⟩ (fun _ h => h.elim) xav_no (fun r350 hp350 hq350 => ?_)
    obtain ⟨rfl, jc350, jr350, rfl⟩ := pP_rd (v' := xsum (xlin f (nI q)) nl) hq350 (xin_of hq2 (by omega)) (rfl)
    refine a_lload (i := 9) C dL_addsUp_353 rfl ?_
    refine a_lcmp C dL_addsUp_355 ?_
    refine a_if_ne (tgt := 568) C dL_addsUp_356 (by decide) (fun c356 => ?_) (fun c356 => ?_)
    · exact absurd (lcmp_eq.mpr (by rw [hkL.1 q hq2])) c356
    · refine a_aload_n (i := 0) C dL_addsUp_359 rfl rfl ?_
      refine a_iload (i := 6) C dL_addsUp_360 rfl ?_
      refine a_callSN (na := 2) C hN dL_addsUp_362 ⟨tb732, tb23, tb733, ⟨by decide, by decide, by decide +kernel⟩⟩ tb731 (w_disputed hflags hbs hJ hq) rfl rfl (Nat.le_of_ble_eq_true rfl) ⟨Nat.le_of_ble_eq_true rfl, Nat.le_of_ble_eq_true rfl⟩ ⟨show k + 1 + 1 ≤ 5600 by omega, show s9 + 6 + 6 ≤ 33600 by omega⟩ (fun _ h => h.elim) xav_no (fun r362 hp362 hq362 => ?_)
      obtain ⟨rfl, jc362, jr362, rfl⟩ := pP_rd (v' := f 14 q) hq362 (xin_of hq2 (by omega)) (by rw [nI_clamp (by omega)])
      refine a_lconst (v := 0) C dL_addsUp_365 (by decide) ?_
      refine a_lload (i := 9) C dL_addsUp_366 rfl ?_
      refine a_callSP (na := 3) C hN dL_addsUp_368 ⟨tb900, tb23, tb901, ⟨by decide, by decide, by decide +kernel⟩⟩ tb899 (p_from hflags (by rw [← x64_0, x64_le, i32_le, i32_z]; exact (hG.2.2.2.1.1 q hq2).1) (x64_le.mpr (i32_le.mpr (hG.2.2.2.1.1 q hq2).2))) rfl rfl (Nat.le_of_ble_eq_true rfl) ⟨Nat.le_of_ble_eq_true rfl, Nat.le_of_ble_eq_true rfl⟩ ⟨show k + 1 + 1 + 0 ≤ 5600 by omega, show s9 + 6 + 6 + 0 ≤ 33600 by omega⟩ (fun _ h => h.elim) xav_no (fun r368 hp368 hq368 => ?_)
      obtain ⟨rfl, rfl⟩ := hq368
      refine a_if_eq (tgt := 568) C dL_addsUp_371 (by decide) (fun z => absurd z (by decide)) (fun _ => ?_)
      refine a_aload_n (i := 0) C dL_addsUp_374 rfl rfl ?_
      refine a_iload (i := 6) C dL_addsUp_375 rfl ?_
      refine a_callSN (na := 2) C hN dL_addsUp_377 ⟨tb784, tb23, tb785, ⟨by decide, by decide, by decide +kernel⟩⟩ tb783 (w_level hflags hbs hJ hq) rfl rfl (Nat.le_of_ble_eq_true rfl) ⟨Nat.le_of_ble_eq_true rfl, Nat.le_of_ble_eq_true rfl⟩ ⟨show k + 1 + 1 + 1 ≤ 5600 by omega, show s9 + 6 + 6 + 6 ≤ 33600 by omega⟩ (fun _ h => h.elim) xav_no (fun r377 hp377 hq377 => ?_)
      obtain ⟨rfl, jc377, jr377, rfl⟩ := pP_rd (v' := f 17 q) hq377 (xin_of hq2 (by omega)) (by rw [nI_clamp (by omega)])
      refine a_lconst (v := 0) C dL_addsUp_380 (by decide) ?_
      refine a_lload (i := 9) C dL_addsUp_381 rfl ?_
      refine a_lconst (v := 0) C dL_addsUp_383 (by decide) ?_
      refine a_lcmp C dL_addsUp_384 ?_
      refine a_if_ne (tgt := 392) C dL_addsUp_385 (by decide) (fun c385 => ?_) (fun c385 => ?_)
      · refine a_ldc2 C dL_addsUp_392 tb885 ?_
        refine a_callSP (na := 3) C hN dL_addsUp_395 ⟨tb900, tb23, tb901, ⟨by decide, by decide, by decide +kernel⟩⟩ tb899 (p_from hflags (by rw [← x64_0, x64_le, i32_le, i32_z]; exact (hkV q hq2).1) (by rw [i64_le, Int32.toInt_toInt64, show (4 : Int64).toInt = 4 from rfl]; exact (hkV q hq2).2.1)) rfl rfl (Nat.le_of_ble_eq_true rfl) ⟨Nat.le_of_ble_eq_true rfl, Nat.le_of_ble_eq_true rfl⟩ ⟨show k + 1 + 1 + 1 + 0 ≤ 5600 by omega, show s9 + 6 + 6 + 6 + 0 ≤ 33600 by omega⟩ (fun _ h => h.elim) xav_no (fun r395 hp395 hq395 => ?_)
        obtain ⟨rfl, rfl⟩ := hq395
        refine a_if_eq (tgt := 568) C dL_addsUp_398 (by decide) (fun z => absurd z (by decide)) (fun _ => ?_)
        refine a_loc [(0, .ref 0), (1, .ref 230), (2, .ref 231), (3, .ref 232), (4, .ref 233), (5, .int 1), (6, .int (nI q)), (7, .long (f 13 q).toInt64), (9, .long (f 13 q).toInt64), (11, .int rm)] (xsub_cons rfl (xsub_cons rfl (xsub_cons rfl (xsub_cons rfl (xsub_cons rfl (xsub_cons rfl (xsub_cons rfl (xsub_cons rfl (xsub_cons rfl (xsub_cons rfl (xsub_nil))))))))))) ?_
        exact au_t2 hflags C hN hbs hJ hq hA hB hK hq2 hKB hSB next (by omega) (by omega) hR
      · refine a_lconst (v := 0) C dL_addsUp_388 (by decide) ?_
        refine a_goto (tgt := 395) C dL_addsUp_389 (by decide) ?_
        refine a_callSP (na := 3) C hN dL_addsUp_395 ⟨tb900, tb23, tb901, ⟨by decide, by decide, by decide +kernel⟩⟩ tb899 (p_from hflags (by rw [← x64_0, x64_le, i32_le, i32_z]; exact (hkV q hq2).1) (by rw [(hkV q hq2).2.2 (by have := lcmp_eq.mp c385; rw [← x64_0] at this; exact x64_eq.mp this)]; exact Int64.le_refl _)) rfl rfl (Nat.le_of_ble_eq_true rfl) ⟨Nat.le_of_ble_eq_true rfl, Nat.le_of_ble_eq_true rfl⟩ ⟨show k + 1 + 1 + 1 + 0 ≤ 5600 by omega, show s9 + 6 + 6 + 6 + 0 ≤ 33600 by omega⟩ (fun _ h => h.elim) xav_no (fun r395 hp395 hq395 => ?_)
        obtain ⟨rfl, rfl⟩ := hq395
        refine a_if_eq (tgt := 568) C dL_addsUp_398 (by decide) (fun z => absurd z (by decide)) (fun _ => ?_)
        refine a_loc [(0, .ref 0), (1, .ref 230), (2, .ref 231), (3, .ref 232), (4, .ref 233), (5, .int 1), (6, .int (nI q)), (7, .long (f 13 q).toInt64), (9, .long (f 13 q).toInt64), (11, .int rm)] (xsub_cons rfl (xsub_cons rfl (xsub_cons rfl (xsub_cons rfl (xsub_cons rfl (xsub_cons rfl (xsub_cons rfl (xsub_cons rfl (xsub_cons rfl (xsub_cons rfl (xsub_nil))))))))))) ?_
        exact au_t2 hflags C hN hbs hJ hq hA hB hK hq2 hKB hSB next (by omega) (by omega) hR
set_option maxRecDepth 100000 in
set_option maxHeartbeats 4000000 in
theorem au_t0 {E : xEnv} {l : Launch} {N0 : Nat} {D : va_G} {dT : Nat → ClassId} (hflags : l.stackTraces = false) (C : aC E l N0 D dT cL_addsUp yL_addsUp.cls 14 (some FieldType.boolean) [] (xRm 12 5600 33600) xNo) (hN : xNcE E) {h : xH} {n : Nat → Int32} {f : Nat → Nat → Int32} {g : Nat → Nat → Int64} {nc ni np nl q9 : Nat} {O G P M R : Nat → Int32} (hbs : xBs h) (hJ : JI n f g nc ni np nl q9) (hq : q9 ≤ 500) (hA : xLa h O G P M) (hB : ∀ t, n 1 = nI t → t ≤ 1460 → kB ni t f g) (hK : kK nc ni np nl f g O G P M R) {q : Nat} (hq2 : q < ni) {k s9 : Nat} {jc : Nat → Nat → Int32} {jr : Nat → Int64} {KB SB : Nat} (hKB : KB ≤ 5600) (hSB : SB ≤ 33600) (next : ∀ (k s9 : Nat) (jc : Nat → Nat → Int32) (jr : Nat → Int64), k ≤ KB → s9 ≤ SB → aW E k s9 (xC h nc ni np nl (n 1) f g jc jr) 571 [(0, .ref 0), (1, .ref 230), (2, .ref 231), (3, .ref 232), (4, .ref 233), (5, .int 1), (6, .int (nI q))] []) (hk : k + 17 ≤ KB) (hs : s9 + 102 ≤ SB) : aW E k s9 (xC h nc ni np nl (n 1) f g jc jr) 288 [(0, .ref 0), (1, .ref 230), (2, .ref 231), (3, .ref 232), (4, .ref 233), (5, .int 1), (6, .int (nI q)), (7, .long (f 13 q).toInt64)] [] := by
  have hnl := JI_nl hJ (by omega)
  obtain ⟨hI, ⟨t9, ht, ht2, hG⟩, hLl⟩ := id hJ
  obtain ⟨-, -, -, -, hc6, hi24, hp24, hl16⟩ := id hI
  have hBt := hB t9 ht ht2
  obtain ⟨⟨hkM, hkL, hkV⟩, hk1, hk2, hk3, hk4, hk5, hk6, hk7, hk8⟩ := id hK
  refine a_aload_n (i := 0) C dL_addsUp_288 rfl rfl ?_
  refine a_iload (i := 6) C dL_addsUp_289 rfl ?_
  refine a_callSN (na := 2) C hN dL_addsUp_291 ⟨tb725, tb23, tb726, ⟨by decide, by decide, by decide +kernel⟩⟩ tb724 (w_open hflags hbs hJ hq) rfl rfl (Nat.le_of_ble_eq_true rfl) ⟨Nat.le_of_ble_eq_true rfl, Nat.le_of_ble_eq_true rfl⟩ ⟨show k + 1 ≤ 5600 by omega, show s9 + 6 ≤ 33600 by omega⟩ (fun _ h => h.elim) xav_no (fun r291 hp291 hq291 => ?_)
  obtain ⟨rfl, jc291, jr291, rfl⟩ := pP_rd (v' := f 13 q) hq291 (xin_of hq2 (by omega)) (by rw [nI_clamp (by omega)])
  refine a_lstore (i := 9) C dL_addsUp_294 (by decide) ?_
  refine a_aload_n (i := 0) C dL_addsUp_296 rfl rfl ?_
  refine a_iload (i := 6) C dL_addsUp_297 rfl ?_
  refine a_callSN (na := 2) C hN dL_addsUp_299 ⟨tb784, tb23, tb785, ⟨by decide, by decide, by decide +kernel⟩⟩ tb783 (w_level hflags hbs hJ hq) rfl rfl (Nat.le_of_ble_eq_true rfl) ⟨Nat.le_of_ble_eq_true rfl, Nat.le_of_ble_eq_true rfl⟩ ⟨show k + 1 + 1 ≤ 5600 by omega, show s9 + 6 + 6 ≤ 33600 by omega⟩ (fun _ h => h.elim) xav_no (fun r299 hp299 hq299 => ?_)
  obtain ⟨rfl, jc299, jr299, rfl⟩ := pP_rd (v' := f 17 q) hq299 (xin_of hq2 (by omega)) (by rw [nI_clamp (by omega)])
  refine a_ldc2 C dL_addsUp_302 tb885 ?_
  refine a_lcmp C dL_addsUp_305 ?_
  refine a_if_ge (tgt := 331) C dL_addsUp_306 (by decide) (fun c306 => ?_) (fun c306 => ?_)
  · refine a_iconst (v := 0) C dL_addsUp_331 (by decide) ?_
    refine a_istore (i := 11) C dL_addsUp_332 (by decide) ?_
    refine a_loc [(0, .ref 0), (1, .ref 230), (2, .ref 231), (3, .ref 232), (4, .ref 233), (5, .int 1), (6, .int (nI q)), (7, .long (f 13 q).toInt64), (9, .long (f 13 q).toInt64), (11, .int _)] (xsub_cons rfl (xsub_cons rfl (xsub_cons rfl (xsub_cons rfl (xsub_cons rfl (xsub_cons rfl (xsub_cons rfl (xsub_cons rfl (xsub_cons rfl (xsub_cons rfl (xsub_nil))))))))))) ?_
    first
    | exact au_t1 hflags C hN hbs hJ hq hA hB hK hq2 hKB hSB next (by omega) (by omega) (Or.inl ⟨rfl, by have := lcmp_lt.mp (Int32.not_le.mp c306); rw [i64_lt, Int32.toInt_toInt64] at this; exact i32_lt.mpr this, by have := lcmp_gt.mp (Int32.not_le.mp c313); rw [← x64_0] at this; exact x64_lt.mp this, by have := lcmp_eq.mp c324; rw [← x64_0] at this; exact x64_eq.mp this⟩)
    | exact au_t1 hflags C hN hbs hJ hq hA hB hK hq2 hKB hSB next (by omega) (by omega) (Or.inr ⟨rfl, fun z => c324 (lcmp_eq.mpr (by rw [z.2.2]; rfl))⟩)
    | exact au_t1 hflags C hN hbs hJ hq hA hB hK hq2 hKB hSB next (by omega) (by omega) (Or.inr ⟨rfl, fun z => lcmp_le.mp c313 (by rw [← x64_0]; exact x64_lt.mpr z.2.1)⟩)
    | exact au_t1 hflags C hN hbs hJ hq hA hB hK hq2 hKB hSB next (by omega) (by omega) (Or.inr ⟨rfl, fun z => lcmp_ge.mp c306 (by rw [i64_lt, Int32.toInt_toInt64]; exact i32_lt.mp z.1)⟩)
  · refine a_lload (i := 9) C dL_addsUp_309 rfl ?_
    refine a_lconst (v := 0) C dL_addsUp_311 (by decide) ?_
    refine a_lcmp C dL_addsUp_312 ?_
    refine a_if_le (tgt := 331) C dL_addsUp_313 (by decide) (fun c313 => ?_) (fun c313 => ?_)
    · refine a_iconst (v := 0) C dL_addsUp_331 (by decide) ?_
      refine a_istore (i := 11) C dL_addsUp_332 (by decide) ?_
      refine a_loc [(0, .ref 0), (1, .ref 230), (2, .ref 231), (3, .ref 232), (4, .ref 233), (5, .int 1), (6, .int (nI q)), (7, .long (f 13 q).toInt64), (9, .long (f 13 q).toInt64), (11, .int _)] (xsub_cons rfl (xsub_cons rfl (xsub_cons rfl (xsub_cons rfl (xsub_cons rfl (xsub_cons rfl (xsub_cons rfl (xsub_cons rfl (xsub_cons rfl (xsub_cons rfl (xsub_nil))))))))))) ?_
      first
      | exact au_t1 hflags C hN hbs hJ hq hA hB hK hq2 hKB hSB next (by omega) (by omega) (Or.inl ⟨rfl, by have := lcmp_lt.mp (Int32.not_le.mp c306); rw [i64_lt, Int32.toInt_toInt64] at this; exact i32_lt.mpr this, by have := lcmp_gt.mp (Int32.not_le.mp c313); rw [← x64_0] at this; exact x64_lt.mp this, by have := lcmp_eq.mp c324; rw [← x64_0] at this; exact x64_eq.mp this⟩)
      | exact au_t1 hflags C hN hbs hJ hq hA hB hK hq2 hKB hSB next (by omega) (by omega) (Or.inr ⟨rfl, fun z => c324 (lcmp_eq.mpr (by rw [z.2.2]; rfl))⟩)
      | exact au_t1 hflags C hN hbs hJ hq hA hB hK hq2 hKB hSB next (by omega) (by omega) (Or.inr ⟨rfl, fun z => lcmp_le.mp c313 (by rw [← x64_0]; exact x64_lt.mpr z.2.1)⟩)
      | exact au_t1 hflags C hN hbs hJ hq hA hB hK hq2 hKB hSB next (by omega) (by omega) (Or.inr ⟨rfl, fun z => lcmp_ge.mp c306 (by rw [i64_lt, Int32.toInt_toInt64]; exact i32_lt.mp z.1)⟩)
    · refine a_aload_n (i := 0) C dL_addsUp_316 rfl rfl ?_
      refine a_iload (i := 6) C dL_addsUp_317 rfl ?_
      refine a_callSN (na := 2) C hN dL_addsUp_319 ⟨tb732, tb23, tb733, ⟨by decide, by decide, by decide +kernel⟩⟩ tb731 (w_disputed hflags hbs hJ hq) rfl rfl (Nat.le_of_ble_eq_true rfl) ⟨Nat.le_of_ble_eq_true rfl, Nat.le_of_ble_eq_true rfl⟩ ⟨show k + 1 + 1 + 1 ≤ 5600 by omega, show s9 + 6 + 6 + 6 ≤ 33600 by omega⟩ (fun _ h => h.elim) xav_no (fun r319 hp319 hq319 => ?_)
      obtain ⟨rfl, jc319, jr319, rfl⟩ := pP_rd (v' := f 14 q) hq319 (xin_of hq2 (by omega)) (by rw [nI_clamp (by omega)])
      refine a_lconst (v := 0) C dL_addsUp_322 (by decide) ?_
      refine a_lcmp C dL_addsUp_323 ?_
      refine a_if_ne (tgt := 331) C dL_addsUp_324 (by decide) (fun c324 => ?_) (fun c324 => ?_)
      · refine a_iconst (v := 0) C dL_addsUp_331 (by decide) ?_
        refine a_istore (i := 11) C dL_addsUp_332 (by decide) ?_
        refine a_loc [(0, .ref 0), (1, .ref 230), (2, .ref 231), (3, .ref 232), (4, .ref 233), (5, .int 1), (6, .int (nI q)), (7, .long (f 13 q).toInt64), (9, .long (f 13 q).toInt64), (11, .int _)] (xsub_cons rfl (xsub_cons rfl (xsub_cons rfl (xsub_cons rfl (xsub_cons rfl (xsub_cons rfl (xsub_cons rfl (xsub_cons rfl (xsub_cons rfl (xsub_cons rfl (xsub_nil))))))))))) ?_
        first
        | exact au_t1 hflags C hN hbs hJ hq hA hB hK hq2 hKB hSB next (by omega) (by omega) (Or.inl ⟨rfl, by have := lcmp_lt.mp (Int32.not_le.mp c306); rw [i64_lt, Int32.toInt_toInt64] at this; exact i32_lt.mpr this, by have := lcmp_gt.mp (Int32.not_le.mp c313); rw [← x64_0] at this; exact x64_lt.mp this, by have := lcmp_eq.mp c324; rw [← x64_0] at this; exact x64_eq.mp this⟩)
        | exact au_t1 hflags C hN hbs hJ hq hA hB hK hq2 hKB hSB next (by omega) (by omega) (Or.inr ⟨rfl, fun z => c324 (lcmp_eq.mpr (by rw [z.2.2]; rfl))⟩)
        | exact au_t1 hflags C hN hbs hJ hq hA hB hK hq2 hKB hSB next (by omega) (by omega) (Or.inr ⟨rfl, fun z => lcmp_le.mp c313 (by rw [← x64_0]; exact x64_lt.mpr z.2.1)⟩)
        | exact au_t1 hflags C hN hbs hJ hq hA hB hK hq2 hKB hSB next (by omega) (by omega) (Or.inr ⟨rfl, fun z => lcmp_ge.mp c306 (by rw [i64_lt, Int32.toInt_toInt64]; exact i32_lt.mp z.1)⟩)
      · refine a_iconst (v := 1) C dL_addsUp_327 (by decide) ?_
        refine a_goto (tgt := 332) C dL_addsUp_328 (by decide) ?_
        refine a_istore (i := 11) C dL_addsUp_332 (by decide) ?_
        refine a_loc [(0, .ref 0), (1, .ref 230), (2, .ref 231), (3, .ref 232), (4, .ref 233), (5, .int 1), (6, .int (nI q)), (7, .long (f 13 q).toInt64), (9, .long (f 13 q).toInt64), (11, .int _)] (xsub_cons rfl (xsub_cons rfl (xsub_cons rfl (xsub_cons rfl (xsub_cons rfl (xsub_cons rfl (xsub_cons rfl (xsub_cons rfl (xsub_cons rfl (xsub_cons rfl (xsub_nil))))))))))) ?_
        first
        | exact au_t1 hflags C hN hbs hJ hq hA hB hK hq2 hKB hSB next (by omega) (by omega) (Or.inl ⟨rfl, by have := lcmp_lt.mp (Int32.not_le.mp c306); rw [i64_lt, Int32.toInt_toInt64] at this; exact i32_lt.mpr this, by have := lcmp_gt.mp (Int32.not_le.mp c313); rw [← x64_0] at this; exact x64_lt.mp this, by have := lcmp_eq.mp c324; rw [← x64_0] at this; exact x64_eq.mp this⟩)
        | exact au_t1 hflags C hN hbs hJ hq hA hB hK hq2 hKB hSB next (by omega) (by omega) (Or.inr ⟨rfl, fun z => c324 (lcmp_eq.mpr (by rw [z.2.2]; rfl))⟩)
        | exact au_t1 hflags C hN hbs hJ hq hA hB hK hq2 hKB hSB next (by omega) (by omega) (Or.inr ⟨rfl, fun z => lcmp_le.mp c313 (by rw [← x64_0]; exact x64_lt.mpr z.2.1)⟩)
        | exact au_t1 hflags C hN hbs hJ hq hA hB hK hq2 hKB hSB next (by omega) (by omega) (Or.inr ⟨rfl, fun z => lcmp_ge.mp c306 (by rw [i64_lt, Int32.toInt_toInt64]; exact i32_lt.mp z.1)⟩)
