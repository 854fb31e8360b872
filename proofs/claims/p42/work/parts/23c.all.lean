set_option maxRecDepth 100000 in
set_option maxHeartbeats 4000000 in
theorem au_inv {E : xEnv} {l : Launch} {N0 : Nat} {D : va_G} {dT : Nat → ClassId} (hflags : l.stackTraces = false) (C : aC E l N0 D dT cL_addsUp yL_addsUp.cls 14 (some FieldType.boolean) [] (xRm 12 5600 33600) xNo) (hN : xNcE E) {h : xH} {n : Nat → Int32} {f : Nat → Nat → Int32} {g : Nat → Nat → Int64} {nc ni np nl q9 : Nat} {O G P M R : Nat → Int32} (hbs : xBs h) (hJ : JI n f g nc ni np nl q9) (hq : q9 ≤ 500) (hA : xLa h O G P M) (hB : ∀ t, n 1 = nI t → t ≤ 1460 → kB ni t f g) (hK : kK nc ni np nl f g O G P M R)  {KB SB : Nat} (hKB : KB ≤ 5600) (hSB : SB ≤ 33600) (next : ∀ (k s9 : Nat) (jc : Nat → Nat → Int32) (jr : Nat → Int64), k ≤ KB → s9 ≤ SB → aW E k s9 (xC h nc ni np nl (n 1) f g jc jr) 577 [(0, .ref 0), (1, .ref 230), (2, .ref 231), (3, .ref 232), (4, .ref 233), (5, .int 1)] []) : ∀ (fu i : Nat) (k s9 : Nat) (jc : Nat → Nat → Int32) (jr : Nat → Int64), i ≤ ni → ni < i + fu → k + 165 * (ni - i) ≤ KB → s9 + 990 * (ni - i) ≤ SB → aW E k s9 (xC h nc ni np nl (n 1) f g jc jr) 180 [(0, .ref 0), (1, .ref 230), (2, .ref 231), (3, .ref 232), (4, .ref 233), (5, .int 1), (6, .int (nI i))] [] := by
  have hnl := JI_nl hJ (by omega)
  obtain ⟨hI, ⟨t9, ht, ht2, hG⟩, hLl⟩ := id hJ
  obtain ⟨-, -, -, -, hc6, hi24, hp24, hl16⟩ := id hI
  have hBt := hB t9 ht ht2
  obtain ⟨⟨hkM, hkL, hkV⟩, hk1, hk2, hk3, hk4, hk5, hk6, hk7, hk8⟩ := id hK
  intro fu
  induction fu with
  | zero => intro i k s9 jc jr h1 h2; exact absurd h2 (by omega)
  | succ fu ih =>
    intro i k s9 jc jr h1 h2 hk hs
    refine a_iload (i := 6) C dL_addsUp_180 rfl ?_
    refine a_aload_n (i := 0) C dL_addsUp_182 rfl rfl ?_
    refine a_callV C dL_addsUp_183 cv_X6_invoices tb146 (k_invoices hflags) rfl rfl xC_0 rfl (Nat.le_of_ble_eq_true rfl) ⟨Nat.le_of_ble_eq_true rfl, Nat.le_of_ble_eq_true rfl⟩ ⟨show k + 0 ≤ 5600 by omega, show s9 + 0 ≤ 33600 by omega⟩ (fun _ h => h.elim) xav_no (fun _ _ h => h.elim) (fun r183 hp183 hq183 => ?_)
    obtain ⟨rfl, rfl⟩ := hq183
    refine a_icmp_ge (tgt := 577) C dL_addsUp_186 (by decide) (fun c186 => ?_) (fun c186 => ?_)
    · have hie : i = ni := by
        have := (xle (a := ni) (b := i) (by omega) (by omega)).mp c186
        omega
      rw [hie]
      refine a_loc [(0, .ref 0), (1, .ref 230), (2, .ref 231), (3, .ref 232), (4, .ref 233), (5, .int 1)] (xsub_cons rfl (xsub_cons rfl (xsub_cons rfl (xsub_cons rfl (xsub_cons rfl (xsub_cons rfl (xsub_nil))))))) ?_
      exact next _ _ _ _ (by omega) (by omega)
    · have hlt : i < ni := by
        rcases Nat.lt_or_ge i ni with q | q
        · exact q
        · exact absurd ((xle (a := ni) (b := i) (by omega) (by omega)).mpr q) c186
      refine a_iload (i := 5) C dL_addsUp_189 rfl ?_
      refine a_if_eq (tgt := 577) C dL_addsUp_191 (by decide) (fun z => absurd z (by decide)) (fun _ => ?_)
      refine a_aload_n (i := 0) C dL_addsUp_194 rfl rfl ?_
      refine a_iload (i := 6) C dL_addsUp_195 rfl ?_
      refine a_callSN (na := 2) C hN dL_addsUp_197 ⟨tb718, tb23, tb719, ⟨by decide, by decide, by decide +kernel⟩⟩ tb717 (w_amount hflags hbs hJ hq) rfl rfl (Nat.le_of_ble_eq_true rfl) ⟨Nat.le_of_ble_eq_true rfl, Nat.le_of_ble_eq_true rfl⟩ ⟨show k + 1 ≤ 5600 by omega, show s9 + 6 ≤ 33600 by omega⟩ (fun _ h => h.elim) xav_no (fun r197 hp197 hq197 => ?_)
      obtain ⟨rfl, jc197, jr197, rfl⟩ := pP_rd (v' := f 11 i) hq197 (xin_of hlt (by omega)) (by rw [nI_clamp (by omega)])
      refine a_aload_n (i := 2) C dL_addsUp_200 rfl rfl ?_
      refine a_iload (i := 6) C dL_addsUp_201 rfl ?_
      refine a_ialdI C dL_addsUp_203 (xC_L hA.2.1 (by decide)) ⟨by omega, by omega⟩ ?_
      refine a_i2l C dL_addsUp_204 ?_
      refine a_lsub C dL_addsUp_205 ?_
      refine a_lstore (i := 7) C dL_addsUp_206 (by decide) ?_
      refine a_iconst (v := 0) C dL_addsUp_208 (by decide) ?_
      refine a_istore (i := 9) C dL_addsUp_209 (by decide) ?_
      refine a_loc [(0, .ref 0), (1, .ref 230), (2, .ref 231), (3, .ref 232), (4, .ref 233), (5, .int 1), (6, .int (nI i)), (7, .long (ysub ((f 11 i).toInt64 - (G i).toInt64) (fun k => (f 22 (24 * k + i)).toInt64) 0)), (9, .int (nI 0))] (xsub_cons rfl (xsub_cons rfl (xsub_cons rfl (xsub_cons rfl (xsub_cons rfl (xsub_cons rfl (xsub_cons rfl (xsub_cons rfl (xsub_cons rfl (xsub_nil)))))))))) ?_
      refine au_cell hflags C hN hbs hJ hq hA hB hK (q := i) hlt (KB := k + 1 + 144) (SB := s9 + 6 + 864) (by omega) (by omega) (fun k288 s288 jc288 jr288 hk288 hs288 => ?_) (np + 1) 0 (k + 1) (s9 + 6) _ _ (Nat.zero_le _) (by omega) (by omega) (by omega)
      refine au_t0 hflags C hN hbs hJ hq hA hB hK (q := i) hlt (KB := k + 165) (SB := s9 + 990) (by omega) (by omega) (fun k571 s571 jc571 jr571 hk571 hs571 => ?_) (by omega) (by omega)
      refine a_iinc (i := 6) (v := nI (i + 1)) C dL_addsUp_571 rfl (nI_1 i) (by decide) ?_
      refine a_goto (tgt := 180) C dL_addsUp_574 (by decide) ?_
      refine a_loc [(0, .ref 0), (1, .ref 230), (2, .ref 231), (3, .ref 232), (4, .ref 233), (5, .int 1), (6, .int (nI (i + 1)))] (xsub_cons rfl (xsub_cons rfl (xsub_cons rfl (xsub_cons rfl (xsub_cons rfl (xsub_cons rfl (xsub_cons rfl (xsub_nil)))))))) ?_
      exact ih (i + 1) _ _ _ _ (by omega) (by omega) (by omega) (by omega)
set_option maxRecDepth 100000 in
set_option maxHeartbeats 4000000 in
theorem au_psum {E : xEnv} {l : Launch} {N0 : Nat} {D : va_G} {dT : Nat → ClassId} (hflags : l.stackTraces = false) (C : aC E l N0 D dT cL_addsUp yL_addsUp.cls 14 (some FieldType.boolean) [] (xRm 12 5600 33600) xNo) (hN : xNcE E) {h : xH} {n : Nat → Int32} {f : Nat → Nat → Int32} {g : Nat → Nat → Int64} {nc ni np nl q9 : Nat} {O G P M R : Nat → Int32} (hbs : xBs h) (hJ : JI n f g nc ni np nl q9) (hq : q9 ≤ 500) (hA : xLa h O G P M) (hB : ∀ t, n 1 = nI t → t ≤ 1460 → kB ni t f g) (hK : kK nc ni np nl f g O G P M R) {q : Nat} (hq2 : q < np) {KB SB : Nat} (hKB : KB ≤ 5600) (hSB : SB ≤ 33600) (next : ∀ (k s9 : Nat) (jc : Nat → Nat → Int32) (jr : Nat → Int64), k ≤ KB → s9 ≤ SB → aW E k s9 (xC h nc ni np nl (n 1) f g jc jr) 633 [(0, .ref 0), (1, .ref 230), (2, .ref 231), (3, .ref 232), (4, .ref 233), (5, .int 1), (6, .int (nI q)), (7, .long (M q).toInt64)] []) : ∀ (fu i : Nat) (k s9 : Nat) (jc : Nat → Nat → Int32) (jr : Nat → Int64), i ≤ ni → ni < i + fu → k + 2 * (ni - i) ≤ KB → s9 + 12 * (ni - i) ≤ SB → aW E k s9 (xC h nc ni np nl (n 1) f g jc jr) 605 [(0, .ref 0), (1, .ref 230), (2, .ref 231), (3, .ref 232), (4, .ref 233), (5, .int 1), (6, .int (nI q)), (7, .long (yadd (f 20 q).toInt64 (fun i => (f 22 (24 * q + i)).toInt64) i)), (9, .int (nI i))] [] := by
  have hnl := JI_nl hJ (by omega)
  obtain ⟨hI, ⟨t9, ht, ht2, hG⟩, hLl⟩ := id hJ
  obtain ⟨-, -, -, -, hc6, hi24, hp24, hl16⟩ := id hI
  have hBt := hB t9 ht ht2
  obtain ⟨⟨hkM, hkL, hkV⟩, hk1, hk2, hk3, hk4, hk5, hk6, hk7, hk8⟩ := id hK
  intro fu
  induction fu with
  | zero => intro i k s9 jc jr h1 h2; exact absurd h2 (by omega)
  | succ fu ih =>
    intro i k s9 jc jr h1 h2 hk hs
    refine a_iload (i := 9) C dL_addsUp_605 rfl ?_
    refine a_aload_n (i := 0) C dL_addsUp_607 rfl rfl ?_
    refine a_callV C dL_addsUp_608 cv_X6_invoices tb146 (k_invoices hflags) rfl rfl xC_0 rfl (Nat.le_of_ble_eq_true rfl) ⟨Nat.le_of_ble_eq_true rfl, Nat.le_of_ble_eq_true rfl⟩ ⟨show k + 0 ≤ 5600 by omega, show s9 + 0 ≤ 33600 by omega⟩ (fun _ h => h.elim) xav_no (fun _ _ h => h.elim) (fun r608 hp608 hq608 => ?_)
    obtain ⟨rfl, rfl⟩ := hq608
    refine a_icmp_ge (tgt := 633) C dL_addsUp_611 (by decide) (fun c611 => ?_) (fun c611 => ?_)
    · have hie : i = ni := by
        have := (xle (a := ni) (b := i) (by omega) (by omega)).mp c611
        omega
      rw [hie, A_add hkM hi24 hq2]
      refine a_loc [(0, .ref 0), (1, .ref 230), (2, .ref 231), (3, .ref 232), (4, .ref 233), (5, .int 1), (6, .int (nI q)), (7, .long (M q).toInt64)] (xsub_cons rfl (xsub_cons rfl (xsub_cons rfl (xsub_cons rfl (xsub_cons rfl (xsub_cons rfl (xsub_cons rfl (xsub_cons rfl (xsub_nil))))))))) ?_
      exact next _ _ _ _ (by omega) (by omega)
    · have hlt : i < ni := by
        rcases Nat.lt_or_ge i ni with q | q
        · exact q
        · exact absurd ((xle (a := ni) (b := i) (by omega) (by omega)).mpr q) c611
      refine a_lload (i := 7) C dL_addsUp_614 rfl ?_
      refine a_aload_n (i := 0) C dL_addsUp_616 rfl rfl ?_
      refine a_iload (i := 6) C dL_addsUp_617 rfl ?_
      refine a_iload (i := 9) C dL_addsUp_619 rfl ?_
      refine a_callSN (na := 3) C hN dL_addsUp_621 ⟨tb739, tb23, tb740, ⟨by decide, by decide, by decide +kernel⟩⟩ tb738 (w_allocated hflags hbs hJ hq) rfl rfl (Nat.le_of_ble_eq_true rfl) ⟨Nat.le_of_ble_eq_true rfl, Nat.le_of_ble_eq_true rfl⟩ ⟨show k + 2 ≤ 5600 by omega, show s9 + 12 ≤ 33600 by omega⟩ (fun _ h => h.elim) xav_no (fun r621 hp621 hq621 => ?_)
      obtain ⟨rfl, jc621, jr621, rfl⟩ := pP_rd (v' := f 22 (24 * q + i)) hq621 ⟨xin_of hq2 (by omega), xin_of hlt (by omega)⟩ (by rw [nI_clamp (by omega), nI_clamp (by omega)])
      refine a_ladd C dL_addsUp_624 ?_
      refine a_topl (yadd (f 20 q).toInt64 (fun i => (f 22 (24 * q + i)).toInt64) (i + 1)) rfl ?_
      refine a_lstore (i := 7) C dL_addsUp_625 (by decide) ?_
      refine a_iinc (i := 9) (v := nI (i + 1)) C dL_addsUp_627 rfl (nI_1 i) (by decide) ?_
      refine a_goto (tgt := 605) C dL_addsUp_630 (by decide) ?_
      refine a_loc [(0, .ref 0), (1, .ref 230), (2, .ref 231), (3, .ref 232), (4, .ref 233), (5, .int 1), (6, .int (nI q)), (7, .long (yadd (f 20 q).toInt64 (fun i => (f 22 (24 * q + i)).toInt64) (i + 1))), (9, .int (nI (i + 1)))] (xsub_cons rfl (xsub_cons rfl (xsub_cons rfl (xsub_cons rfl (xsub_cons rfl (xsub_cons rfl (xsub_cons rfl (xsub_cons rfl (xsub_cons rfl (xsub_nil)))))))))) ?_
      exact ih (i + 1) _ _ _ _ (by omega) (by omega) (by omega) (by omega)
set_option maxRecDepth 100000 in
set_option maxHeartbeats 4000000 in
theorem au_pay {E : xEnv} {l : Launch} {N0 : Nat} {D : va_G} {dT : Nat → ClassId} (hflags : l.stackTraces = false) (C : aC E l N0 D dT cL_addsUp yL_addsUp.cls 14 (some FieldType.boolean) [] (xRm 12 5600 33600) xNo) (hN : xNcE E) {h : xH} {n : Nat → Int32} {f : Nat → Nat → Int32} {g : Nat → Nat → Int64} {nc ni np nl q9 : Nat} {O G P M R : Nat → Int32} (hbs : xBs h) (hJ : JI n f g nc ni np nl q9) (hq : q9 ≤ 500) (hA : xLa h O G P M) (hB : ∀ t, n 1 = nI t → t ≤ 1460 → kB ni t f g) (hK : kK nc ni np nl f g O G P M R)  {KB SB : Nat} (hKB : KB ≤ 5600) (hSB : SB ≤ 33600) (next : ∀ (k s9 : Nat) (jc : Nat → Nat → Int32) (jr : Nat → Int64), k ≤ KB → s9 ≤ SB → aW E k s9 (xC h nc ni np nl (n 1) f g jc jr) 669 [(0, .ref 0), (1, .ref 230), (2, .ref 231), (3, .ref 232), (4, .ref 233), (5, .int 1)] []) : ∀ (fu i : Nat) (k s9 : Nat) (jc : Nat → Nat → Int32) (jr : Nat → Int64), i ≤ np → np < i + fu → k + 50 * (np - i) ≤ KB → s9 + 300 * (np - i) ≤ SB → aW E k s9 (xC h nc ni np nl (n 1) f g jc jr) 580 [(0, .ref 0), (1, .ref 230), (2, .ref 231), (3, .ref 232), (4, .ref 233), (5, .int 1), (6, .int (nI i))] [] := by
  have hnl := JI_nl hJ (by omega)
  obtain ⟨hI, ⟨t9, ht, ht2, hG⟩, hLl⟩ := id hJ
  obtain ⟨-, -, -, -, hc6, hi24, hp24, hl16⟩ := id hI
  have hBt := hB t9 ht ht2
  obtain ⟨⟨hkM, hkL, hkV⟩, hk1, hk2, hk3, hk4, hk5, hk6, hk7, hk8⟩ := id hK
  intro fu
  induction fu with
  | zero => intro i k s9 jc jr h1 h2; exact absurd h2 (by omega)
  | succ fu ih =>
    intro i k s9 jc jr h1 h2 hk hs
    refine a_iload (i := 6) C dL_addsUp_580 rfl ?_
    refine a_aload_n (i := 0) C dL_addsUp_582 rfl rfl ?_
    refine a_callV C dL_addsUp_583 cv_X6_payments tb150 (k_payments hflags) rfl rfl xC_0 rfl (Nat.le_of_ble_eq_true rfl) ⟨Nat.le_of_ble_eq_true rfl, Nat.le_of_ble_eq_true rfl⟩ ⟨show k + 0 ≤ 5600 by omega, show s9 + 0 ≤ 33600 by omega⟩ (fun _ h => h.elim) xav_no (fun _ _ h => h.elim) (fun r583 hp583 hq583 => ?_)
    obtain ⟨rfl, rfl⟩ := hq583
    refine a_icmp_ge (tgt := 669) C dL_addsUp_586 (by decide) (fun c586 => ?_) (fun c586 => ?_)
    · have hie : i = np := by
        have := (xle (a := np) (b := i) (by omega) (by omega)).mp c586
        omega
      rw [hie]
      refine a_loc [(0, .ref 0), (1, .ref 230), (2, .ref 231), (3, .ref 232), (4, .ref 233), (5, .int 1)] (xsub_cons rfl (xsub_cons rfl (xsub_cons rfl (xsub_cons rfl (xsub_cons rfl (xsub_cons rfl (xsub_nil))))))) ?_
      exact next _ _ _ _ (by omega) (by omega)
    · have hlt : i < np := by
        rcases Nat.lt_or_ge i np with q | q
        · exact q
        · exact absurd ((xle (a := np) (b := i) (by omega) (by omega)).mpr q) c586
      refine a_iload (i := 5) C dL_addsUp_589 rfl ?_
      refine a_if_eq (tgt := 669) C dL_addsUp_591 (by decide) (fun z => absurd z (by decide)) (fun _ => ?_)
      refine a_aload_n (i := 0) C dL_addsUp_594 rfl rfl ?_
      refine a_iload (i := 6) C dL_addsUp_595 rfl ?_
      refine a_callSN (na := 2) C hN dL_addsUp_597 ⟨tb746, tb23, tb747, ⟨by decide, by decide, by decide +kernel⟩⟩ tb745 (w_unallocated hflags hbs hJ hq) rfl rfl (Nat.le_of_ble_eq_true rfl) ⟨Nat.le_of_ble_eq_true rfl, Nat.le_of_ble_eq_true rfl⟩ ⟨show k + 1 ≤ 5600 by omega, show s9 + 6 ≤ 33600 by omega⟩ (fun _ h => h.elim) xav_no (fun r597 hp597 hq597 => ?_)
      obtain ⟨rfl, jc597, jr597, rfl⟩ := pP_rd (v' := f 20 i) hq597 (xin_of hlt (by omega)) (by rw [nI_clamp (by omega)])
      refine a_lstore (i := 7) C dL_addsUp_600 (by decide) ?_
      refine a_iconst (v := 0) C dL_addsUp_602 (by decide) ?_
      refine a_istore (i := 9) C dL_addsUp_603 (by decide) ?_
      refine a_loc [(0, .ref 0), (1, .ref 230), (2, .ref 231), (3, .ref 232), (4, .ref 233), (5, .int 1), (6, .int (nI i)), (7, .long (yadd (f 20 i).toInt64 (fun j => (f 22 (24 * i + j)).toInt64) 0)), (9, .int (nI 0))] (xsub_cons rfl (xsub_cons rfl (xsub_cons rfl (xsub_cons rfl (xsub_cons rfl (xsub_cons rfl (xsub_cons rfl (xsub_cons rfl (xsub_cons rfl (xsub_nil)))))))))) ?_
      refine au_psum hflags C hN hbs hJ hq hA hB hK (q := i) hlt (KB := k + 1 + 48) (SB := s9 + 6 + 288) (by omega) (by omega) (fun k633 s633 jc633 jr633 hk633 hs633 => ?_) (ni + 1) 0 (k + 1) (s9 + 6) _ _ (Nat.zero_le _) (by omega) (by omega) (by omega)
      refine a_lload (i := 7) C dL_addsUp_633 rfl ?_
      refine a_aload (i := 4) C dL_addsUp_635 rfl ?_
      refine a_iload (i := 6) C dL_addsUp_637 rfl ?_
      refine a_ialdI C dL_addsUp_639 (xC_L hA.2.2.2 (by decide)) ⟨by omega, by omega⟩ ?_
      refine a_i2l C dL_addsUp_640 ?_
      refine a_lcmp C dL_addsUp_641 ?_
      refine a_if_ne (tgt := 660) C dL_addsUp_642 (by decide) (fun c642 => ?_) (fun c642 => ?_)
      · exact absurd (lcmp_eq.mpr rfl) c642
      · refine a_aload_n (i := 0) C dL_addsUp_645 rfl rfl ?_
        refine a_iload (i := 6) C dL_addsUp_646 rfl ?_
        refine a_callSN (na := 2) C hN dL_addsUp_648 ⟨tb746, tb23, tb747, ⟨by decide, by decide, by decide +kernel⟩⟩ tb745 (w_unallocated hflags hbs hJ hq) rfl rfl (Nat.le_of_ble_eq_true rfl) ⟨Nat.le_of_ble_eq_true rfl, Nat.le_of_ble_eq_true rfl⟩ ⟨show k633 + 1 ≤ 5600 by omega, show s633 + 6 ≤ 33600 by omega⟩ (fun _ h => h.elim) xav_no (fun r648 hp648 hq648 => ?_)
        obtain ⟨rfl, jc648, jr648, rfl⟩ := pP_rd (v' := f 20 i) hq648 (xin_of hlt (by omega)) (by rw [nI_clamp (by omega)])
        refine a_lconst (v := 0) C dL_addsUp_651 (by decide) ?_
        refine a_lcmp C dL_addsUp_652 ?_
        refine a_if_lt (tgt := 660) C dL_addsUp_653 (by decide) (fun c653 => ?_) (fun c653 => ?_)
        · exact absurd (lcmp_lt.mp c653) (by rw [← x64_0, x64_lt, i32_lt, i32_z]; exact Int.not_lt.mpr (kB_20 hG hlt).1)
        · refine a_iconst (v := 1) C dL_addsUp_656 (by decide) ?_
          refine a_goto (tgt := 661) C dL_addsUp_657 (by decide) ?_
          refine a_istore (i := 5) C dL_addsUp_661 (by decide) ?_
          refine a_iinc (i := 6) (v := nI (i + 1)) C dL_addsUp_663 rfl (nI_1 i) (by decide) ?_
          refine a_goto (tgt := 580) C dL_addsUp_666 (by decide) ?_
          refine a_loc [(0, .ref 0), (1, .ref 230), (2, .ref 231), (3, .ref 232), (4, .ref 233), (5, .int 1), (6, .int (nI (i + 1)))] (xsub_cons rfl (xsub_cons rfl (xsub_cons rfl (xsub_cons rfl (xsub_cons rfl (xsub_cons rfl (xsub_cons rfl (xsub_nil)))))))) ?_
          exact ih (i + 1) _ _ _ _ (by omega) (by omega) (by omega) (by omega)
set_option maxRecDepth 100000 in
set_option maxHeartbeats 4000000 in
theorem p_addsUp {l : Launch} {N0 : Nat} {D : va_G} {dT : Nat → ClassId} (hflags : l.stackTraces = false) {h : xH} {n : Nat → Int32} {f : Nat → Nat → Int32} {g : Nat → Nat → Int64} {nc ni np nl q9 : Nat} {jc : Nat → Nat → Int32} {jr : Nat → Int64} {O G P M R : Nat → Int32} (hbs : xBs h) (hJ : JI n f g nc ni np nl q9) (hq : q9 ≤ 500) (hA : xLa h O G P M) (hB : ∀ t, n 1 = nI t → t ≤ 1460 → kB ni t f g) (hK : kK nc ni np nl f g O G P M R) : xMetP l N0 D dT yL_addsUp cL_addsUp 14 (some FieldType.boolean) 12 5600 33600 [.ref 0, .ref 230, .ref 231, .ref 232, .ref 233] (xC h nc ni np nl (n 1) f g jc jr) xNo (fun r h' => r = some (.int 1) ∧ ∃ jc jr, h' = xC h nc ni np nl (n 1) f g jc jr) := by
  have hnl := JI_nl hJ (by omega)
  obtain ⟨hI, ⟨t9, ht, ht2, hG⟩, hLl⟩ := id hJ
  obtain ⟨-, -, -, -, hc6, hi24, hp24, hl16⟩ := id hI
  have hBt := hB t9 ht ht2
  obtain ⟨⟨hkM, hkL, hkV⟩, hk1, hk2, hk3, hk4, hk5, hk6, hk7, hk8⟩ := id hK
  refine xMetP_of hflags (by decide +kernel) (fun _ _ h => h) (Nat.le_of_ble_eq_true rfl) ?_
  intro E C hN hret
  refine a_loc [(0, .ref 0), (1, .ref 230), (2, .ref 231), (3, .ref 232), (4, .ref 233)] (xsub_cons rfl (xsub_cons rfl (xsub_cons rfl (xsub_cons rfl (xsub_cons rfl (xsub_nil)))))) ?_
  refine a_iconst (v := 1) C dL_addsUp_0 (by decide) ?_
  refine a_istore (i := 5) C dL_addsUp_1 (by decide) ?_
  refine a_iconst (v := 0) C dL_addsUp_3 (by decide) ?_
  refine a_istore (i := 6) C dL_addsUp_4 (by decide) ?_
  refine a_loc [(0, .ref 0), (1, .ref 230), (2, .ref 231), (3, .ref 232), (4, .ref 233), (5, .int 1), (6, .int (nI 0))] (xsub_cons rfl (xsub_cons rfl (xsub_cons rfl (xsub_cons rfl (xsub_cons rfl (xsub_cons rfl (xsub_cons rfl (xsub_nil)))))))) ?_
  refine au_cust hflags C hN hbs hJ hq hA hB hK (KB := 360) (SB := 6 * (360)) (by omega) (by omega) (fun k177 s177 jc177 jr177 hk177 hs177 => ?_) (nc + 1) 0 0 0 _ _ (Nat.zero_le _) (by omega) (by omega) (by omega)
  refine a_iconst (v := 0) C dL_addsUp_177 (by decide) ?_
  refine a_istore (i := 6) C dL_addsUp_178 (by decide) ?_
  refine a_loc [(0, .ref 0), (1, .ref 230), (2, .ref 231), (3, .ref 232), (4, .ref 233), (5, .int 1), (6, .int (nI 0))] (xsub_cons rfl (xsub_cons rfl (xsub_cons rfl (xsub_cons rfl (xsub_cons rfl (xsub_cons rfl (xsub_cons rfl (xsub_nil)))))))) ?_
  refine au_inv hflags C hN hbs hJ hq hA hB hK (KB := 360 + 3960) (SB := 6 * (360 + 3960)) (by omega) (by omega) (fun k577 s577 jc577 jr577 hk577 hs577 => ?_) (ni + 1) 0 k177 s177 _ _ (Nat.zero_le _) (by omega) (by omega) (by omega)
  refine a_iconst (v := 0) C dL_addsUp_577 (by decide) ?_
  refine a_istore (i := 6) C dL_addsUp_578 (by decide) ?_
  refine a_loc [(0, .ref 0), (1, .ref 230), (2, .ref 231), (3, .ref 232), (4, .ref 233), (5, .int 1), (6, .int (nI 0))] (xsub_cons rfl (xsub_cons rfl (xsub_cons rfl (xsub_cons rfl (xsub_cons rfl (xsub_cons rfl (xsub_cons rfl (xsub_nil)))))))) ?_
  refine au_pay hflags C hN hbs hJ hq hA hB hK (KB := 360 + 3960 + 1200) (SB := 6 * (360 + 3960 + 1200)) (by omega) (by omega) (fun k669 s669 jc669 jr669 hk669 hs669 => ?_) (np + 1) 0 k577 s577 _ _ (Nat.zero_le _) (by omega) (by omega) (by omega)
  refine a_iload (i := 5) C dL_addsUp_669 rfl ?_
  refine a_if_eq (tgt := 716) C dL_addsUp_671 (by decide) (fun z => absurd z (by decide)) (fun _ => ?_)
  refine a_aload_n (i := 0) C dL_addsUp_674 rfl rfl ?_
  refine a_iconst (v := 0) C dL_addsUp_675 (by decide) ?_
  refine a_callSN (na := 2) C hN dL_addsUp_676 ⟨tb847, tb23, tb848, ⟨by decide, by decide, by decide +kernel⟩⟩ tb846 (w_atLevel hflags hbs hJ hq) rfl rfl (Nat.le_of_ble_eq_true rfl) ⟨Nat.le_of_ble_eq_true rfl, Nat.le_of_ble_eq_true rfl⟩ ⟨show k669 + 1 ≤ 5600 by omega, show s669 + 6 ≤ 33600 by omega⟩ (fun _ h => h.elim) xav_no (fun r676 hp676 hq676 => ?_)
  obtain ⟨rfl, jc676, jr676, rfl⟩ := pP_rd (v' := xsum (xlev f 0) ni) hq676 (by decide) (rfl)
  refine a_aload_n (i := 0) C dL_addsUp_679 rfl rfl ?_
  refine a_iconst (v := 1) C dL_addsUp_680 (by decide) ?_
  refine a_callSN (na := 2) C hN dL_addsUp_681 ⟨tb847, tb23, tb848, ⟨by decide, by decide, by decide +kernel⟩⟩ tb846 (w_atLevel hflags hbs hJ hq) rfl rfl (Nat.le_of_ble_eq_true rfl) ⟨Nat.le_of_ble_eq_true rfl, Nat.le_of_ble_eq_true rfl⟩ ⟨show k669 + 1 + 1 ≤ 5600 by omega, show s669 + 6 + 6 ≤ 33600 by omega⟩ (fun _ h => h.elim) xav_no (fun r681 hp681 hq681 => ?_)
  obtain ⟨rfl, jc681, jr681, rfl⟩ := pP_rd (v' := xsum (xlev f 1) ni) hq681 (by decide) (rfl)
  refine a_ladd C dL_addsUp_684 ?_
  refine a_aload_n (i := 0) C dL_addsUp_685 rfl rfl ?_
  refine a_iconst (v := 2) C dL_addsUp_686 (by decide) ?_
  refine a_callSN (na := 2) C hN dL_addsUp_687 ⟨tb847, tb23, tb848, ⟨by decide, by decide, by decide +kernel⟩⟩ tb846 (w_atLevel hflags hbs hJ hq) rfl rfl (Nat.le_of_ble_eq_true rfl) ⟨Nat.le_of_ble_eq_true rfl, Nat.le_of_ble_eq_true rfl⟩ ⟨show k669 + 1 + 1 + 1 ≤ 5600 by omega, show s669 + 6 + 6 + 6 ≤ 33600 by omega⟩ (fun _ h => h.elim) xav_no (fun r687 hp687 hq687 => ?_)
  obtain ⟨rfl, jc687, jr687, rfl⟩ := pP_rd (v' := xsum (xlev f 2) ni) hq687 (by decide) (rfl)
  refine a_ladd C dL_addsUp_690 ?_
  refine a_aload_n (i := 0) C dL_addsUp_691 rfl rfl ?_
  refine a_iconst (v := 3) C dL_addsUp_692 (by decide) ?_
  refine a_callSN (na := 2) C hN dL_addsUp_693 ⟨tb847, tb23, tb848, ⟨by decide, by decide, by decide +kernel⟩⟩ tb846 (w_atLevel hflags hbs hJ hq) rfl rfl (Nat.le_of_ble_eq_true rfl) ⟨Nat.le_of_ble_eq_true rfl, Nat.le_of_ble_eq_true rfl⟩ ⟨show k669 + 1 + 1 + 1 + 1 ≤ 5600 by omega, show s669 + 6 + 6 + 6 + 6 ≤ 33600 by omega⟩ (fun _ h => h.elim) xav_no (fun r693 hp693 hq693 => ?_)
  obtain ⟨rfl, jc693, jr693, rfl⟩ := pP_rd (v' := xsum (xlev f 3) ni) hq693 (by decide) (rfl)
  refine a_ladd C dL_addsUp_696 ?_
  refine a_aload_n (i := 0) C dL_addsUp_697 rfl rfl ?_
  refine a_iconst (v := 4) C dL_addsUp_698 (by decide) ?_
  refine a_callSN (na := 2) C hN dL_addsUp_699 ⟨tb847, tb23, tb848, ⟨by decide, by decide, by decide +kernel⟩⟩ tb846 (w_atLevel hflags hbs hJ hq) rfl rfl (Nat.le_of_ble_eq_true rfl) ⟨Nat.le_of_ble_eq_true rfl, Nat.le_of_ble_eq_true rfl⟩ ⟨show k669 + 1 + 1 + 1 + 1 + 1 ≤ 5600 by omega, show s669 + 6 + 6 + 6 + 6 + 6 ≤ 33600 by omega⟩ (fun _ h => h.elim) xav_no (fun r699 hp699 hq699 => ?_)
  obtain ⟨rfl, jc699, jr699, rfl⟩ := pP_rd (v' := xsum (xlev f 4) ni) hq699 (by decide) (rfl)
  refine a_ladd C dL_addsUp_702 ?_
  refine a_aload_n (i := 0) C dL_addsUp_703 rfl rfl ?_
  refine a_callV C dL_addsUp_704 cv_X6_invoices tb146 (k_invoices hflags) rfl rfl xC_0 rfl (Nat.le_of_ble_eq_true rfl) ⟨Nat.le_of_ble_eq_true rfl, Nat.le_of_ble_eq_true rfl⟩ ⟨show k669 + 1 + 1 + 1 + 1 + 1 + 0 ≤ 5600 by omega, show s669 + 6 + 6 + 6 + 6 + 6 + 0 ≤ 33600 by omega⟩ (fun _ h => h.elim) xav_no (fun _ _ h => h.elim) (fun r704 hp704 hq704 => ?_)
  obtain ⟨rfl, rfl⟩ := hq704
  refine a_i2l C dL_addsUp_707 ?_
  refine a_lcmp C dL_addsUp_708 ?_
  refine a_if_ne (tgt := 716) C dL_addsUp_709 (by decide) (fun c709 => ?_) (fun c709 => ?_)
  · exact absurd (lcmp_eq.mpr (A_lev hkV hi24)) c709
  · refine a_iconst (v := 1) C dL_addsUp_712 (by decide) ?_
    refine a_goto (tgt := 717) C dL_addsUp_713 (by decide) ?_
    exact a_zret C dL_addsUp_717 (by first | rfl | exact bI_nar) (show k669 + 1 + 1 + 1 + 1 + 1 ≤ 5600 by omega) (show s669 + 6 + 6 + 6 + 6 + 6 ≤ 33600 by omega) (hret _ _ ⟨rfl, _, _, rfl⟩)
