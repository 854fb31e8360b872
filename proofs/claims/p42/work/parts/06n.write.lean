/-- what the class's base must keep free -/
def xBs (h : xH) : Prop := ∀ j e, h j = some e → ∀ b, (b < 200 ∨ (300 ≤ b ∧ b ≤ 399)) → xnr b e
theorem aAd_b (B c : Nat) : aAd B c = 901 ∨ (300 ≤ aAd B c ∧ aAd B c ≤ 304 + B) := by
  have := aGen_le c
  unfold aAd
  by_cases h : c = 0
  · subst h; exact Or.inl rfl
  · rw [xb_f h]
    exact Or.inr ⟨by show 300 ≤ 300 + (B + aGen c); omega, by show 300 + (B + aGen c) ≤ 304 + B; omega⟩
theorem xDr_up {c : Nat} {w : Nat → Int32} {v : Int32} : upd (xDr c w) c v = xDr (c + 1) (upd w c v) := by
  funext q
  by_cases hq : q = c
  · subst hq
    rw [xupd_i]
    unfold xDr
    rw [if_pos (Nat.lt_succ_self q), xupd_i]
  · rw [xud hq]
    unfold xDr
    by_cases h : q < c
    · rw [if_pos h, if_pos (Nat.lt_succ_of_lt h), xud hq]
    · rw [if_neg h, if_neg (by omega)]
theorem xDr_cp {c : Nat} {w : Nat → Int32} : va_cpy (xDr c w) (fun _ => 0) 0 0 c = xDr c w := by
  funext q
  unfold va_cpy xDr
  by_cases h : q < c
  · rw [if_pos (by omega), Nat.sub_zero, Nat.zero_add, if_pos h]
  · rw [if_neg (by omega), if_neg h]
section XWR
variable {h : xH} {nc ni np nl : Nat} {t : Int32} {f : Nat → Nat → Int32} {g : Nat → Nat → Int64} {jc : Nat → Nat → Int32} {jr : Nat → Int64}
theorem wr_sub {v a : Int32} {H : xH} (hl : nl + 1 ≤ 16384) (h7 : H 7 = some (.inr (3, xDo (nl + 1)))) (h1 : H (340 + lGen (nl + 1)) = some (.inl (0, lCap (nl + 1), .inl (xDr (nl + 1) (upd (f 23) nl v))))) (h2 : H (350 + lGen (nl + 1)) = some (.inl (0, lCap (nl + 1), .inl (xDr (nl + 1) (upd (f 24) nl a))))) (ho : ∀ j, j ≠ 7 → j ≠ 340 + lGen (nl + 1) → j ≠ 350 + lGen (nl + 1) → H j = xC h nc ni np nl t f g jc jr j) : ∀ j e, xC h nc ni np (nl + 1) t (fup (fup f 23 (upd (f 23) nl v)) 24 (upd (f 24) nl a)) g jc jr j = some e → H j = some e := by
  have hg := lGen_le (nl + 1)
  intro j e he
  by_cases e7 : j = 7
  · subst e7; exact h7.trans he
  by_cases e1 : j = 340 + lGen (nl + 1)
  · subst e1; rw [h1, ← he]; exact (xC_d1 (h := h) (nc := nc) (ni := ni) (np := np) (nl := nl + 1) (t := t) (f := fup (fup f 23 (upd (f 23) nl v)) 24 (upd (f 24) nl a)) (g := g) (jc := jc) (jr := jr)).symm
  by_cases e2 : j = 350 + lGen (nl + 1)
  · subst e2; rw [h2, ← he]; exact (xC_d2 (h := h) (nc := nc) (ni := ni) (np := np) (nl := nl + 1) (t := t) (f := fup (fup f 23 (upd (f 23) nl v)) 24 (upd (f 24) nl a)) (g := g) (jc := jc) (jr := jr)).symm
  rw [ho j e7 e1 e2]
  by_cases g1 : j ≤ 15
  · rw [xC_fx g1] at he ⊢
    unfold xCf at he ⊢
    rw [xb_f e7] at he ⊢
    exact he
  by_cases g2 : j ≤ 31
  · obtain ⟨i, rfl⟩ : ∃ i, j = 16 + i := ⟨j - 16, by omega⟩
    rw [xC_cx (by omega)] at he ⊢
    exact he
  by_cases g3 : j ≤ 63
  · obtain ⟨i, rfl⟩ : ∃ i, j = 32 + i := ⟨j - 32, by omega⟩
    rw [xC_ix (by omega)] at he ⊢
    exact he
  by_cases g4 : j ≤ 95
  · obtain ⟨i, rfl⟩ : ∃ i, j = 64 + i := ⟨j - 64, by omega⟩
    rw [xC_px (by omega)] at he ⊢
    exact he
  by_cases g5 : j ≤ 127
  · obtain ⟨i, rfl⟩ : ∃ i, j = 96 + i := ⟨j - 96, by omega⟩
    rw [xC_ax (by omega)] at he ⊢
    exact he
  by_cases g6 : 300 ≤ j ∧ j ≤ 399
  · obtain ⟨i, rfl⟩ : ∃ i, j = 300 + i := ⟨j - 300, by omega⟩
    rw [xC_rx (by omega)] at he ⊢
    unfold xCr at he ⊢
    by_cases k1 : i ≤ 9
    · rw [xleT k1] at he ⊢; exact he
    rw [xleF (show 9 < i by omega)] at he ⊢
    by_cases k2 : i ≤ 19
    · rw [xleT k2] at he ⊢; exact he
    rw [xleF (show 19 < i by omega)] at he ⊢
    by_cases k3 : i ≤ 29
    · rw [xleT k3] at he ⊢; exact he
    rw [xleF (show 29 < i by omega)] at he ⊢
    by_cases k4 : i ≤ 39
    · rw [xleT k4] at he ⊢; exact he
    rw [xleF (show 39 < i by omega)] at he ⊢
    by_cases k5 : i ≤ 49
    · rw [xleT k5] at he
      unfold xCD at he
      rw [xb_f (show i - 40 ≠ lGen (nl + 1) by omega)] at he
      cases he
    rw [xleF (show 49 < i by omega)] at he ⊢
    by_cases k6 : i ≤ 59
    · rw [xleT k6] at he
      unfold xCD at he
      rw [xb_f (show i - 50 ≠ lGen (nl + 1) by omega)] at he
      cases he
    rw [xleF (show 59 < i by omega)] at he ⊢
    exact he
  · rw [xC_ox (by omega) (by omega)] at he ⊢
    exact he
end XWR
def lCel (a b : Nat) : Nat := 2 * (lGen b - lGen a)
def lSlt (a b : Nat) : Nat := 4 * (lCap b - lCap a)
set_option maxRecDepth 100000 in
set_option maxHeartbeats 4000000 in
theorem m_X3_hasRoom1 {l : Launch} {N0 : Nat} {D : va_G} {dT : Nat → ClassId} (hflags : l.stackTraces = false) {hp : xH} {a1 a2 N c : Nat} {F1 F2 : Nat → Int32} (h7 : hp 7 = some (.inr (3, [.int (nI c), .ref a1, .ref a2]))) (hA1 : hp a1 = some (.inl (0, N, .inl F1))) (hA2 : hp a2 = some (.inl (0, N, .inl F2))) (hcN : c < N ∧ N < 2 ^ 31)  : xMet l N0 D dT yX3_hasRoom cX3_hasRoom 1 (some FieldType.boolean) 0 0 0 [.ref 7] (hp) xNo (fun r h => r = some (.int 1) ∧ h = hp) xNX := by
  refine xMet_of hflags (by decide +kernel) (fun _ _ h => h) (Nat.le_of_ble_eq_true rfl) ?_
  intro E C I hret hthr
  refine a_loc [(0, .ref 7)] (xsub_cons rfl (xsub_nil)) ?_
  refine a_aload_n (i := 0) C dX3_hasRoom_0 rfl rfl ?_
  refine a_get C dX3_hasRoom_1 fl_X3_16 h7 rfl ?_
  refine a_if_lt (tgt := 35) C dX3_hasRoom_4 (by decide) (fun c4 => ?_) (fun c4 => ?_)
  · exact absurd c4 (Int32.not_lt.mpr ((xle (a := 0) (by omega) (by omega)).mpr (Nat.zero_le c)))
  · refine a_aload_n (i := 0) C dX3_hasRoom_7 rfl rfl ?_
    refine a_get C dX3_hasRoom_8 fl_X3_16 h7 rfl ?_
    refine a_aload_n (i := 0) C dX3_hasRoom_11 rfl rfl ?_
    refine a_get C dX3_hasRoom_12 fl_X3_9 h7 rfl ?_
    refine a_alen C dX3_hasRoom_15 (by decide) hA1 ?_
    refine a_icmp_ge (tgt := 35) C dX3_hasRoom_16 (by decide) (fun c16 => ?_) (fun c16 => ?_)
    · exact absurd ((xle (a := N) (b := c) (by omega) (by omega)).mp c16) (by omega)
    · refine a_aload_n (i := 0) C dX3_hasRoom_19 rfl rfl ?_
      refine a_get C dX3_hasRoom_20 fl_X3_16 h7 rfl ?_
      refine a_aload_n (i := 0) C dX3_hasRoom_23 rfl rfl ?_
      refine a_get C dX3_hasRoom_24 fl_X3_13 h7 rfl ?_
      refine a_alen C dX3_hasRoom_27 (by decide) hA2 ?_
      refine a_icmp_ge (tgt := 35) C dX3_hasRoom_28 (by decide) (fun c28 => ?_) (fun c28 => ?_)
      · exact absurd ((xle (a := N) (b := c) (by omega) (by omega)).mp c28) (by omega)
      · refine a_iconst (v := 1) C dX3_hasRoom_31 (by decide) ?_
        refine a_goto (tgt := 36) C dX3_hasRoom_32 (by decide) ?_
        exact a_zret C dX3_hasRoom_36 (by first | rfl | exact bI_nar) (Nat.le_of_ble_eq_true rfl) (Nat.le_of_ble_eq_true rfl) (hret _ _ ⟨rfl, rfl⟩)
set_option maxRecDepth 100000 in
set_option maxHeartbeats 4000000 in
theorem m_X3_hasRoom0 {l : Launch} {N0 : Nat} {D : va_G} {dT : Nat → ClassId} (hflags : l.stackTraces = false) {hp : xH} {a1 a2 N c : Nat} {F1 F2 : Nat → Int32} (h7 : hp 7 = some (.inr (3, [.int (nI c), .ref a1, .ref a2]))) (hA1 : hp a1 = some (.inl (0, N, .inl F1))) (hA2 : hp a2 = some (.inl (0, N, .inl F2))) (hcN : N ≤ c ∧ c < 2 ^ 31)  : xMet l N0 D dT yX3_hasRoom cX3_hasRoom 1 (some FieldType.boolean) 0 0 0 [.ref 7] (hp) xNo (fun r h => r = some (.int 0) ∧ h = hp) xNX := by
  refine xMet_of hflags (by decide +kernel) (fun _ _ h => h) (Nat.le_of_ble_eq_true rfl) ?_
  intro E C I hret hthr
  refine a_loc [(0, .ref 7)] (xsub_cons rfl (xsub_nil)) ?_
  refine a_aload_n (i := 0) C dX3_hasRoom_0 rfl rfl ?_
  refine a_get C dX3_hasRoom_1 fl_X3_16 h7 rfl ?_
  refine a_if_lt (tgt := 35) C dX3_hasRoom_4 (by decide) (fun c4 => ?_) (fun c4 => ?_)
  · exact absurd c4 (Int32.not_lt.mpr ((xle (a := 0) (by omega) (by omega)).mpr (Nat.zero_le c)))
  · refine a_aload_n (i := 0) C dX3_hasRoom_7 rfl rfl ?_
    refine a_get C dX3_hasRoom_8 fl_X3_16 h7 rfl ?_
    refine a_aload_n (i := 0) C dX3_hasRoom_11 rfl rfl ?_
    refine a_get C dX3_hasRoom_12 fl_X3_9 h7 rfl ?_
    refine a_alen C dX3_hasRoom_15 (by decide) hA1 ?_
    refine a_icmp_ge (tgt := 35) C dX3_hasRoom_16 (by decide) (fun c16 => ?_) (fun c16 => ?_)
    · refine a_iconst (v := 0) C dX3_hasRoom_35 (by decide) ?_
      exact a_zret C dX3_hasRoom_36 (by first | rfl | exact bI_nar) (Nat.le_of_ble_eq_true rfl) (Nat.le_of_ble_eq_true rfl) (hret _ _ ⟨rfl, rfl⟩)
    · exact absurd ((xle (a := N) (b := c) (by omega) (by omega)).mpr (by omega)) c16
set_option maxRecDepth 100000 in
set_option maxHeartbeats 4000000 in
theorem m_X3_write {l : Launch} {N0 : Nat} {D : va_G} {dT : Nat → ClassId} (hflags : l.stackTraces = false) {h : xH} {nc ni np nl : Nat} {n : Nat → Int32} {f : Nat → Nat → Int32} {g : Nat → Nat → Int64} {jc : Nat → Nat → Int32} {jr : Nat → Int64} (hB : nc ≤ 6 ∧ ni ≤ 24 ∧ np ≤ 24 ∧ nl ≤ 16000) {i : Nat} {a : Int32} (hl : nl < 16000) (hbs : xBs h) (hO : ∀ i, i < ni → xow f i < nc) (hP : ∀ i, i < np → xpow f i < nc)  : xMet l N0 D dT yX3_write cX3_write 3 none 3 (lCel nl (mWl nl a)) (lSlt nl (mWl nl a)) [.ref 7, .int (nI i), .int a] (xC h nc ni np nl (n 1) f g jc jr) xnwD (fun r h' => r = none ∧ h' = xC h nc ni np (mWl nl a) (n 1) (mWf nl i a f) g jc jr) xNX := by
  refine xMet_of hflags (by decide +kernel) (fun j h1 h2 => by omega) (Nat.le_of_ble_eq_true rfl) ?_
  intro E C I hret hthr
  refine a_loc [(0, .ref 7), (1, .int (nI i)), (2, .int a)] (xsub_cons rfl (xsub_cons rfl (xsub_cons rfl (xsub_nil)))) ?_
  obtain ⟨hc6, hi24, hp24, hl16⟩ := id hB
  have hlc := lCap_ge hl16
  have hlc2 := lCap_le nl
  have hg1 := lGen_le nl
  have hg2 := lGen_le (nl + 1)
  refine a_iload_n (i := 2) C dX3_write_0 rfl rfl ?_
  refine a_if_eq (tgt := 14) C dX3_write_1 (by decide) (fun ha => ?_) (fun ha => ?_)
  · subst ha
    exact a_vret C dX3_write_14 (Nat.zero_le _) (Nat.zero_le _) (hret _ _ ⟨rfl, by rw [show mWl nl 0 = nl from if_pos rfl, show mWf nl i 0 f = f from if_pos rfl]⟩)
  have hlw : mWl nl a = nl + 1 := if_neg ha
  have tail : ∀ (hp : xH) (a1 a2 N k9 n9 : Nat) (F1 F2 : Nat → Int32), hp 7 = some (.inr (3, [.int (nI nl), .ref a1, .ref a2])) → hp a1 = some (.inl (0, N, .inl F1)) → hp a2 = some (.inl (0, N, .inl F2)) → a1 ≠ a2 → a1 ≠ 7 → a2 ≠ 7 → nl < N → N < 2 ^ 31 → k9 ≤ lCel nl (mWl nl a) → n9 ≤ lSlt nl (mWl nl a) → (∀ j e, (xC h nc ni np (nl + 1) (n 1) (fup (fup f 23 (upd (f 23) nl (nI i))) 24 (upd (f 24) nl a)) g jc jr) j = some e → xup (xup (xup hp a1 (.inl (0, N, .inl (upd F1 nl (nI i))))) a2 (.inl (0, N, .inl (upd F2 nl a)))) 7 (.inr (3, [.int (nI (nl + 1)), .ref a1, .ref a2])) j = some e) → aW E k9 n9 hp 26 [(0, .ref 7), (1, .int (nI i)), (2, .int a)] [] := by
    intro hp a1 a2 N k9 n9 F1 F2 h7 h1 h2 d1 d2 d3 hN hN2 hk hn hs
    refine a_aload_n (i := 0) C dX3_write_26 rfl rfl ?_
    refine a_callV C dX3_write_27 cv_X3_hasRoom tb504 (m_X3_hasRoom1 hflags h7 h1 h2 ⟨hN, hN2⟩) rfl rfl h7 rfl (Nat.le_of_ble_eq_true rfl) ⟨Nat.le_of_ble_eq_true rfl, Nat.le_of_ble_eq_true rfl⟩ ⟨hk, hn⟩ (fun _ h => h.elim) xav_no (fun _ _ h => h.elim) (fun r27 hp27 hq27 => ?_)
    obtain ⟨rfl, rfl⟩ := hq27
    refine a_if_eq (tgt := 63) C dX3_write_30 (by decide) (fun z => absurd z (by decide)) (fun _ => ?_)
    refine a_aload_n (i := 0) C dX3_write_33 rfl rfl ?_
    refine a_get C dX3_write_34 fl_X3_9 h7 rfl ?_
    refine a_aload_n (i := 0) C dX3_write_37 rfl rfl ?_
    refine a_get C dX3_write_38 fl_X3_16 h7 rfl ?_
    refine a_iload_n (i := 1) C dX3_write_41 rfl rfl ?_
    refine a_iastI C dX3_write_42 h1 ⟨hN, hN2⟩ ?_
    refine a_aload_n (i := 0) C dX3_write_43 rfl rfl ?_
    refine a_get C dX3_write_44 fl_X3_13 ((xup_n (Ne.symm d2)).trans h7) rfl ?_
    refine a_aload_n (i := 0) C dX3_write_47 rfl rfl ?_
    refine a_get C dX3_write_48 fl_X3_16 ((xup_n (Ne.symm d2)).trans h7) rfl ?_
    refine a_iload_n (i := 2) C dX3_write_51 rfl rfl ?_
    refine a_iastI C dX3_write_52 ((xup_n (Ne.symm d1)).trans h2) ⟨hN, hN2⟩ ?_
    refine a_aload_n (i := 0) C dX3_write_53 rfl rfl ?_
    refine a_dup C dX3_write_54 rfl ?_
    refine a_get C dX3_write_55 fl_X3_16 ((xup_n (Ne.symm d3)).trans ((xup_n (Ne.symm d2)).trans h7)) rfl ?_
    refine a_iconst (v := 1) C dX3_write_58 (by decide) ?_
    refine a_iadd C dX3_write_59 ?_
    refine a_top (nI (nl + 1)) (nI_1 nl) ?_
    refine a_put C dX3_write_60 fl_X3_16 ((xup_n (Ne.symm d3)).trans ((xup_n (Ne.symm d2)).trans h7)) (Nat.le_of_ble_eq_true rfl) rfl rfl ?_
    refine aW_sub hs ?_
    exact a_vret C dX3_write_63 hk hn (hret _ _ ⟨rfl, by rw [hlw, show mWf nl i a f = fup (fup f 23 (upd (f 23) nl (nI i))) 24 (upd (f 24) nl a) from if_neg ha]⟩)
  refine a_aload_n (i := 0) C dX3_write_4 rfl rfl ?_
  refine a_get C dX3_write_5 fl_X3_16 xC_7 rfl ?_
  refine a_sipush (v := 16384) C dX3_write_8 (by decide) ?_
  refine a_icmp_lt (tgt := 15) C dX3_write_11 (by decide) (fun c11 => ?_) (fun c11 => ?_)
  · have h7 : (xC h nc ni np nl (n 1) f g jc jr) 7 = some (.inr (3, [.int (nI nl), .ref (340 + lGen nl), .ref (350 + lGen nl)])) := xC_7
    have hd1 : (xC h nc ni np nl (n 1) f g jc jr) (340 + lGen nl) = some (.inl (0, lCap nl, .inl (xDr nl (f 23)))) := xC_d1
    have hd2 : (xC h nc ni np nl (n 1) f g jc jr) (350 + lGen nl) = some (.inl (0, lCap nl, .inl (xDr nl (f 24)))) := xC_d2
    by_cases hlt : nl < lCap nl
    · refine a_aload_n (i := 0) C dX3_write_15 rfl rfl ?_
      refine a_callV C dX3_write_16 cv_X3_hasRoom tb504 (m_X3_hasRoom1 hflags h7 hd1 hd2 ⟨hlt, by omega⟩) rfl rfl h7 rfl (Nat.le_of_ble_eq_true rfl) ⟨Nat.le_of_ble_eq_true rfl, Nat.le_of_ble_eq_true rfl⟩ ⟨Nat.zero_le _, Nat.zero_le _⟩ (fun _ h => h.elim) xav_no (fun _ _ h => h.elim) (fun r16 hp16 hq16 => ?_)
      obtain ⟨rfl, rfl⟩ := hq16
      refine a_if_ne (tgt := 26) C dX3_write_19 (by decide) (fun _ => ?_) (fun z => absurd z (by decide))
      obtain ⟨st1, st2⟩ := lC_stay hlt
      refine tail _ (340 + lGen nl) (350 + lGen nl) (lCap nl) _ _ _ _ xC_7 xC_d1 xC_d2 (by omega) (by omega) (by omega) hlt (by omega) (Nat.zero_le _) (Nat.zero_le _) ?_
      refine wr_sub (by omega) (by rw [xup_s]; unfold xDo; rw [st2]) ?_ ?_ ?_
      · rw [st1, st2, xup_n (by omega), xup_n (by omega), xup_s, xDr_up]
      · rw [st1, st2, xup_n (by omega), xup_s, xDr_up]
      · intro j e7 e1 e2
        rw [st2] at e1 e2
        rw [xup_n e7, xup_n e2, xup_n e1]
    · refine a_aload_n (i := 0) C dX3_write_15 rfl rfl ?_
      refine a_callV C dX3_write_16 cv_X3_hasRoom tb504 (m_X3_hasRoom0 hflags h7 hd1 hd2 ⟨by omega, by omega⟩) rfl rfl h7 rfl (Nat.le_of_ble_eq_true rfl) ⟨Nat.le_of_ble_eq_true rfl, Nat.le_of_ble_eq_true rfl⟩ ⟨Nat.zero_le _, Nat.zero_le _⟩ (fun _ h => h.elim) xav_no (fun _ _ h => h.elim) (fun r16 hp16 hq16 => ?_)
      obtain ⟨rfl, rfl⟩ := hq16
      refine a_if_ne (tgt := 26) C dX3_write_19 (by decide) (fun z => absurd rfl z) (fun _ => ?_)
      obtain ⟨gr1, gr2, hcN, gr4, gr5⟩ := lC_grow hl16 (by omega)
      refine a_aload_n (i := 0) C dX3_write_22 rfl rfl ?_
      refine a_callV C dX3_write_23 cv_X3_doubleRoom tb508 (m_X3_doubleRoom hflags (b1 := 340 + lGen (nl + 1)) (b2 := 350 + lGen (nl + 1)) (N := nl) h7 (by rw [hcN] at hd1; exact hd1) (by rw [hcN] at hd2; exact hd2) ⟨by omega, by omega⟩ ⟨by omega, by omega⟩ ⟨by omega, by omega⟩ (by omega) (by omega) (by omega) (by omega) (by omega) (fun j e _ => (xC_fr (fun j e he => hbs j e he _ (Or.inr ⟨by omega, by omega⟩)) (fun k hk => by simp only [List.mem_cons, List.not_mem_nil, or_false] at hk; omega) ⟨by have := aAd_b 0 nc; omega, by have := aAd_b 10 ni; omega, by have := aAd_b 20 np; omega⟩ ⟨by omega, by omega⟩ (fun i hi => by have := hO i hi; omega) (fun i hi => ⟨by have := hP i hi; omega, by omega⟩) (fun i => ⟨fun z => by omega, fun z => by omega, fun z => by omega⟩)) j e) (fun j e _ => (xC_fr (fun j e he => hbs j e he _ (Or.inr ⟨by omega, by omega⟩)) (fun k hk => by simp only [List.mem_cons, List.not_mem_nil, or_false] at hk; omega) ⟨by have := aAd_b 0 nc; omega, by have := aAd_b 10 ni; omega, by have := aAd_b 20 np; omega⟩ ⟨by omega, by omega⟩ (fun i hi => by have := hO i hi; omega) (fun i hi => ⟨by have := hP i hi; omega, by omega⟩) (fun i => ⟨fun z => by omega, fun z => by omega, fun z => by omega⟩)) j e)) rfl rfl h7 rfl (Nat.le_of_ble_eq_true rfl) ⟨Nat.le_of_ble_eq_true rfl, Nat.le_of_ble_eq_true rfl⟩ ⟨(by show 0 + 2 ≤ lCel nl (mWl nl a); rw [hlw]; unfold lCel; omega), (by show 0 + 4 * nl ≤ lSlt nl (mWl nl a); rw [hlw]; unfold lSlt; omega)⟩ (fun _ h => h) ⟨fun q hq j hj => (by simp only [List.mem_cons, List.not_mem_nil, or_false] at hq; rcases hq with rfl | rfl | rfl <;> first | exact Value.noConfusion hj | (have : (7 : Nat) = j := Value.ref.inj hj; omega)), fun v hv => nomatch hv⟩ (fun _ _ h => h.elim) (fun r23 hp23 hq23 => ?_)
      obtain ⟨rfl, rfl⟩ := hq23
      refine tail _ (340 + lGen (nl + 1)) (350 + lGen (nl + 1)) (2 * nl) _ _ _ _ xup_s ((xup_n (by omega)).trans ((xup_n (by omega)).trans ((xup_n (by omega)).trans xup_s))) ((xup_n (by omega)).trans xup_s) (by omega) (by omega) (by omega) (by omega) (by omega) (by rw [hlw]; unfold lCel; omega) (by rw [hlw]; unfold lSlt; omega) ?_
      refine wr_sub (by omega) xup_s ?_ ?_ ?_
      · rw [gr1, xup_n (by omega), xup_n (by omega), xup_s, xDr_cp, xDr_up]
      · rw [gr1, xup_n (by omega), xup_s, xDr_cp, xDr_up]
      · intro j e7 e1 e2
        rw [xup_n e7, xup_n e2, xup_n e1, xup_n e7, xup_n e2, xup_n e7, xup_n e1]
  · exact absurd ((nI_ltI (a := nl) (b := 16384) (by omega) (by omega)).mpr (by omega)) c11
