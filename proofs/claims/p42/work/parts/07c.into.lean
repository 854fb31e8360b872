section XTO
variable {h : xH} {nc ni np nl : Nat} {t : Int32} {f : Nat → Nat → Int32} {g : Nat → Nat → Int64} {jc : Nat → Nat → Int32} {jr : Nat → Int64}
theorem aAd_n {B c : Nat} (h : 0 < c) : aAd B c = 300 + (B + aGen c) := by
  unfold aAd
  rw [xb_f (by omega)]; rfl
theorem xCL_to {b c j : Nat} {e : va_E} (he : xCL b c j = some e) : 0 < c ∧ j = aGen c ∧ e = .inl (3, aCap c, .inr (.inr (.inr (.inr (xLr b c))))) := by
  unfold xCL at he
  by_cases h0 : j = 0
  · subst h0; cases he
  rw [xb_f h0, cond_false] at he
  by_cases h1 : j = aGen c
  · subst h1
    rw [Nat.beq_refl, cond_true] at he
    refine ⟨Nat.pos_of_ne_zero (fun z => h0 (by rw [z]; rfl)), rfl, (Option.some.inj he).symm⟩
  · rw [xb_f h1, cond_false] at he
    cases he
theorem xCD_to {c j : Nat} {w : Nat → Int32} {e : va_E} (he : xCD c w j = some e) : j = lGen c ∧ e = .inl (0, lCap c, .inl (xDr c w)) := by
  unfold xCD at he
  by_cases h1 : j = lGen c
  · subst h1
    rw [Nat.beq_refl, cond_true] at he
    exact ⟨rfl, (Option.some.inj he).symm⟩
  · rw [xb_f h1, cond_false] at he
    cases he
/-- a heap that holds all of the class's objects -/
theorem xC_to {H : xH} (h0 : H 0 = some (.inr (6, xBo t))) (h1 : H 1 = some (.inr (0, xLo 0 nc))) (h2 : H 2 = some (.inr (0, xLo 10 ni))) (h3 : H 3 = some (.inr (0, xLo 20 np))) (h7 : H 7 = some (.inr (3, xDo nl))) (h10 : H 10 = some (.inr (5, xSo))) (h11 : H 11 = some (.inl (0, 24, .inl (jc 3)))) (h12 : H 12 = some (.inl (0, 24, .inl (jc 4)))) (h13 : H 13 = some (.inl (1, 24, .inr (.inl jr)))) (hcu : ∀ i, i < nc → H (16 + i) = some (.inr (1, xCo f i))) (hin : ∀ i, i < ni → H (32 + i) = some (.inr (2, xIo f g jc i))) (hpa : ∀ i, i < np → H (64 + i) = some (.inr (4, xPo f jc i))) (hpr : ∀ i, i < np → H (96 + i) = some (.inl (0, 24, .inl (xPr f i)))) (hl0 : 0 < nc → H (aAd 0 nc) = some (.inl (3, aCap nc, .inr (.inr (.inr (.inr (xLr 16 nc))))))) (hl1 : 0 < ni → H (aAd 10 ni) = some (.inl (3, aCap ni, .inr (.inr (.inr (.inr (xLr 32 ni))))))) (hl2 : 0 < np → H (aAd 20 np) = some (.inl (3, aCap np, .inr (.inr (.inr (.inr (xLr 64 np))))))) (hd1 : H (340 + lGen nl) = some (.inl (0, lCap nl, .inl (xDr nl (f 23))))) (hd2 : H (350 + lGen nl) = some (.inl (0, lCap nl, .inl (xDr nl (f 24))))) (ho : ∀ j e, 128 ≤ j → (j < 300 ∨ 399 < j) → h j = some e → H j = some e) : ∀ j e, xC h nc ni np nl t f g jc jr j = some e → H j = some e := by
  intro j e he
  by_cases g1 : j ≤ 15
  · rw [xC_fx g1] at he
    have : j = 0 ∨ j = 1 ∨ j = 2 ∨ j = 3 ∨ j = 4 ∨ j = 5 ∨ j = 6 ∨ j = 7 ∨ j = 8 ∨ j = 9 ∨ j = 10 ∨ j = 11 ∨ j = 12 ∨ j = 13 ∨ j = 14 ∨ j = 15 := by omega
    rcases this with rfl | rfl | rfl | rfl | rfl | rfl | rfl | rfl | rfl | rfl | rfl | rfl | rfl | rfl | rfl | rfl
    · exact h0.trans he
    · exact h1.trans he
    · exact h2.trans he
    · exact h3.trans he
    · cases he
    · cases he
    · cases he
    · exact h7.trans he
    · cases he
    · cases he
    · exact h10.trans he
    · exact h11.trans he
    · exact h12.trans he
    · exact h13.trans he
    · cases he
    · cases he
  by_cases g2 : j ≤ 31
  · obtain ⟨i, rfl⟩ : ∃ i, j = 16 + i := ⟨j - 16, by omega⟩
    rw [xC_cx (by omega)] at he
    obtain ⟨k1, k2⟩ := xbs he
    rw [hcu i (Nat.le_of_ble_eq_true k1), ← k2]
  by_cases g3 : j ≤ 63
  · obtain ⟨i, rfl⟩ : ∃ i, j = 32 + i := ⟨j - 32, by omega⟩
    rw [xC_ix (by omega)] at he
    obtain ⟨k1, k2⟩ := xbs he
    rw [hin i (Nat.le_of_ble_eq_true k1), ← k2]
  by_cases g4 : j ≤ 95
  · obtain ⟨i, rfl⟩ : ∃ i, j = 64 + i := ⟨j - 64, by omega⟩
    rw [xC_px (by omega)] at he
    obtain ⟨k1, k2⟩ := xbs he
    rw [hpa i (Nat.le_of_ble_eq_true k1), ← k2]
  by_cases g5 : j ≤ 127
  · obtain ⟨i, rfl⟩ : ∃ i, j = 96 + i := ⟨j - 96, by omega⟩
    rw [xC_ax (by omega)] at he
    obtain ⟨k1, k2⟩ := xbs he
    rw [hpr i (Nat.le_of_ble_eq_true k1), ← k2]
  by_cases g6 : 300 ≤ j ∧ j ≤ 399
  · obtain ⟨i, rfl⟩ : ∃ i, j = 300 + i := ⟨j - 300, by omega⟩
    rw [xC_rx (by omega)] at he
    unfold xCr at he
    by_cases k1 : i ≤ 9
    · rw [xleT k1] at he
      obtain ⟨e1, e2, e3⟩ := xCL_to he
      rw [e3, ← hl0 e1, aAd_n e1, e2, Nat.zero_add]
    rw [xleF (show 9 < i by omega)] at he
    by_cases k2 : i ≤ 19
    · rw [xleT k2] at he
      obtain ⟨e1, e2, e3⟩ := xCL_to he
      rw [e3, ← hl1 e1, aAd_n e1, show 10 + aGen ni = i by omega]
    rw [xleF (show 19 < i by omega)] at he
    by_cases k3 : i ≤ 29
    · rw [xleT k3] at he
      obtain ⟨e1, e2, e3⟩ := xCL_to he
      rw [e3, ← hl2 e1, aAd_n e1, show 20 + aGen np = i by omega]
    rw [xleF (show 29 < i by omega)] at he
    by_cases k4 : i ≤ 39
    · rw [xleT k4] at he; cases he
    rw [xleF (show 39 < i by omega)] at he
    by_cases k5 : i ≤ 49
    · rw [xleT k5] at he
      obtain ⟨e2, e3⟩ := xCD_to he
      rw [e3, ← hd1, show 300 + i = 340 + lGen nl by omega]
    rw [xleF (show 49 < i by omega)] at he
    by_cases k6 : i ≤ 59
    · rw [xleT k6] at he
      obtain ⟨e2, e3⟩ := xCD_to he
      rw [e3, ← hd2, show 300 + i = 350 + lGen nl by omega]
    rw [xleF (show 59 < i by omega)] at he
    cases he
  · rw [xC_ox (by omega) (by omega)] at he
    exact ho j e (by omega) (by omega) he
theorem xC_addC {H : xH} {r c w : Int32} (hc6 : nc ≤ 6) (hi24 : ni ≤ 24) (hp24 : np ≤ 24) (hlt : nc < 6) (hL : H 1 = some (.inr (0, xLo 0 (nc + 1)))) (hA : H (aAd 0 (nc + 1)) = some (.inl (3, aCap (nc + 1), .inr (.inr (.inr (.inr (xLr 16 (nc + 1)))))))) (hv : H (16 + nc) = some (.inr (1, xCo (fup (fup (fup f 6 (upd (f 6) nc r)) 7 (upd (f 7) nc c)) 8 (upd (f 8) nc w)) nc))) (ho : ∀ j, j ≠ 1 → j ≠ aAd 0 (nc + 1) → j ≠ 16 + nc → H j = xC h nc ni np nl t f g jc jr j) : ∀ j e, xC h (nc + 1) ni np nl t (fup (fup (fup f 6 (upd (f 6) nc r)) 7 (upd (f 7) nc c)) 8 (upd (f 8) nc w)) g jc jr j = some e → H j = some e := by
  have q1 := aGen_le nc
  have q2 := aGen_le ni
  have q3 := aGen_le np
  have q4 := lGen_le nl
  have q5 := aGen_le (nc + 1)
  have q6 := aAd_n (B := 0) (c := nc + 1) (by omega)
  exact xC_to ((ho (0) (by omega) (by omega) (by omega)).trans xC_0) hL ((ho (2) (by omega) (by omega) (by omega)).trans xC_2) ((ho (3) (by omega) (by omega) (by omega)).trans xC_3) ((ho (7) (by omega) (by omega) (by omega)).trans xC_7) ((ho (10) (by omega) (by omega) (by omega)).trans xC_10) ((ho (11) (by omega) (by omega) (by omega)).trans xC_11) ((ho (12) (by omega) (by omega) (by omega)).trans xC_12) ((ho (13) (by omega) (by omega) (by omega)).trans xC_13) (fun i hi => by
    by_cases e : i = nc
    · subst e; exact hv
    · rw [((ho (16 + i) (by omega) (by omega) (by omega)).trans (xC_cu (by omega) (by omega)))]
      unfold xCo
      rw [show (fup (fup (fup f 6 (upd (f 6) nc r)) 7 (upd (f 7) nc c)) 8 (upd (f 8) nc w)) 6 i = f 6 i from xud e, show (fup (fup (fup f 6 (upd (f 6) nc r)) 7 (upd (f 7) nc c)) 8 (upd (f 8) nc w)) 7 i = f 7 i from xud e, show (fup (fup (fup f 6 (upd (f 6) nc r)) 7 (upd (f 7) nc c)) 8 (upd (f 8) nc w)) 8 i = f 8 i from xud e]
      rfl) (fun i hi => ((ho (32 + i) (by omega) (by omega) (by omega)).trans (xC_in hi (by omega)))) (fun i hi => ((ho (64 + i) (by omega) (by omega) (by omega)).trans (xC_pa hi (by omega)))) (fun i hi => ((ho (96 + i) (by omega) (by omega) (by omega)).trans (xC_pr hi (by omega)))) (fun _ => hA) (fun hz => by
    have q7 := aAd_n (B := 10) hz
    exact ((ho (aAd 10 ni) (by omega) (by omega) (by omega)).trans (xC_l2 hz))) (fun hz => by
    have q7 := aAd_n (B := 20) hz
    exact ((ho (aAd 20 np) (by omega) (by omega) (by omega)).trans (xC_l3 hz))) ((ho (340 + lGen nl) (by omega) (by omega) (by omega)).trans xC_d1) ((ho (350 + lGen nl) (by omega) (by omega) (by omega)).trans xC_d2) (fun j e h1 h2 h3 => (ho j (by omega) (by omega) (by omega)).trans ((xC_ox (by omega) (by omega)).trans h3))
theorem xC_addI {H : xH} {c a d b : Int32} (hc6 : nc ≤ 6) (hi24 : ni ≤ 24) (hp24 : np ≤ 24) (hlt : ni < 24) (hL : H 2 = some (.inr (0, xLo 10 (ni + 1)))) (hA : H (aAd 10 (ni + 1)) = some (.inl (3, aCap (ni + 1), .inr (.inr (.inr (.inr (xLr 32 (ni + 1)))))))) (hv : H (32 + ni) = some (.inr (2, xIo (fup (fup (fup (fup (fup f 10 (upd (f 10) ni c)) 11 (upd (f 11) ni a)) 12 (upd (f 12) ni d)) 13 (upd (f 13) ni a)) 16 (upd (f 16) ni b)) g (fup jc 0 (upd (jc 0) ni 0)) ni))) (ho : ∀ j, j ≠ 2 → j ≠ aAd 10 (ni + 1) → j ≠ 32 + ni → H j = xC h nc ni np nl t f g jc jr j) : ∀ j e, xC h nc (ni + 1) np nl t (fup (fup (fup (fup (fup f 10 (upd (f 10) ni c)) 11 (upd (f 11) ni a)) 12 (upd (f 12) ni d)) 13 (upd (f 13) ni a)) 16 (upd (f 16) ni b)) g (fup jc 0 (upd (jc 0) ni 0)) jr j = some e → H j = some e := by
  have q1 := aGen_le nc
  have q2 := aGen_le ni
  have q3 := aGen_le np
  have q4 := lGen_le nl
  have q5 := aGen_le (ni + 1)
  have q6 := aAd_n (B := 10) (c := ni + 1) (by omega)
  exact xC_to ((ho (0) (by omega) (by omega) (by omega)).trans xC_0) ((ho (1) (by omega) (by omega) (by omega)).trans xC_1) hL ((ho (3) (by omega) (by omega) (by omega)).trans xC_3) ((ho (7) (by omega) (by omega) (by omega)).trans xC_7) ((ho (10) (by omega) (by omega) (by omega)).trans xC_10) ((ho (11) (by omega) (by omega) (by omega)).trans xC_11) ((ho (12) (by omega) (by omega) (by omega)).trans xC_12) ((ho (13) (by omega) (by omega) (by omega)).trans xC_13) (fun i hi => ((ho (16 + i) (by omega) (by omega) (by omega)).trans (xC_cu hi (by omega)))) (fun i hi => by
    by_cases e : i = ni
    · subst e; exact hv
    · rw [((ho (32 + i) (by omega) (by omega) (by omega)).trans (xC_in (by omega) (by omega)))]
      unfold xIo xow xpd
      rw [show (fup (fup (fup (fup (fup f 10 (upd (f 10) ni c)) 11 (upd (f 11) ni a)) 12 (upd (f 12) ni d)) 13 (upd (f 13) ni a)) 16 (upd (f 16) ni b)) 10 i = f 10 i from xud e, show (fup (fup (fup (fup (fup f 10 (upd (f 10) ni c)) 11 (upd (f 11) ni a)) 12 (upd (f 12) ni d)) 13 (upd (f 13) ni a)) 16 (upd (f 16) ni b)) 11 i = f 11 i from xud e, show (fup (fup (fup (fup (fup f 10 (upd (f 10) ni c)) 11 (upd (f 11) ni a)) 12 (upd (f 12) ni d)) 13 (upd (f 13) ni a)) 16 (upd (f 16) ni b)) 12 i = f 12 i from xud e, show (fup (fup (fup (fup (fup f 10 (upd (f 10) ni c)) 11 (upd (f 11) ni a)) 12 (upd (f 12) ni d)) 13 (upd (f 13) ni a)) 16 (upd (f 16) ni b)) 13 i = f 13 i from xud e, show (fup (fup (fup (fup (fup f 10 (upd (f 10) ni c)) 11 (upd (f 11) ni a)) 12 (upd (f 12) ni d)) 13 (upd (f 13) ni a)) 16 (upd (f 16) ni b)) 16 i = f 16 i from xud e, show (fup jc 0 (upd (jc 0) ni 0)) 0 i = jc 0 i from xud e]
      rfl) (fun i hi => ((ho (64 + i) (by omega) (by omega) (by omega)).trans (xC_pa hi (by omega)))) (fun i hi => ((ho (96 + i) (by omega) (by omega) (by omega)).trans (xC_pr hi (by omega)))) (fun hz => by
    have q7 := aAd_n (B := 0) hz
    exact ((ho (aAd 0 nc) (by omega) (by omega) (by omega)).trans (xC_l1 hz))) (fun _ => hA) (fun hz => by
    have q7 := aAd_n (B := 20) hz
    exact ((ho (aAd 20 np) (by omega) (by omega) (by omega)).trans (xC_l3 hz))) ((ho (340 + lGen nl) (by omega) (by omega) (by omega)).trans xC_d1) ((ho (350 + lGen nl) (by omega) (by omega) (by omega)).trans xC_d2) (fun j e h1 h2 h3 => (ho j (by omega) (by omega) (by omega)).trans ((xC_ox (by omega) (by omega)).trans h3))
theorem xC_addP {H : xH} {c a : Int32} (hc6 : nc ≤ 6) (hi24 : ni ≤ 24) (hp24 : np ≤ 24) (hlt : np < 24) (hL : H 3 = some (.inr (0, xLo 20 (np + 1)))) (hA : H (aAd 20 (np + 1)) = some (.inl (3, aCap (np + 1), .inr (.inr (.inr (.inr (xLr 64 (np + 1)))))))) (hv : H (64 + np) = some (.inr (4, xPo (fup (fup f 19 (upd (f 19) np c)) 20 (upd (f 20) np a)) (fup jc 1 (upd (jc 1) np a)) np))) (hr : H (96 + np) = some (.inl (0, 24, .inl (xPr f np)))) (ho : ∀ j, j ≠ 3 → j ≠ aAd 20 (np + 1) → j ≠ 64 + np → j ≠ 96 + np → H j = xC h nc ni np nl t f g jc jr j) : ∀ j e, xC h nc ni (np + 1) nl t (fup (fup f 19 (upd (f 19) np c)) 20 (upd (f 20) np a)) g (fup jc 1 (upd (jc 1) np a)) jr j = some e → H j = some e := by
  have q1 := aGen_le nc
  have q2 := aGen_le ni
  have q3 := aGen_le np
  have q4 := lGen_le nl
  have q5 := aGen_le (np + 1)
  have q6 := aAd_n (B := 20) (c := np + 1) (by omega)
  exact xC_to ((ho (0) (by omega) (by omega) (by omega) (by omega)).trans xC_0) ((ho (1) (by omega) (by omega) (by omega) (by omega)).trans xC_1) ((ho (2) (by omega) (by omega) (by omega) (by omega)).trans xC_2) hL ((ho (7) (by omega) (by omega) (by omega) (by omega)).trans xC_7) ((ho (10) (by omega) (by omega) (by omega) (by omega)).trans xC_10) ((ho (11) (by omega) (by omega) (by omega) (by omega)).trans xC_11) ((ho (12) (by omega) (by omega) (by omega) (by omega)).trans xC_12) ((ho (13) (by omega) (by omega) (by omega) (by omega)).trans xC_13) (fun i hi => ((ho (16 + i) (by omega) (by omega) (by omega) (by omega)).trans (xC_cu hi (by omega)))) (fun i hi => ((ho (32 + i) (by omega) (by omega) (by omega) (by omega)).trans (xC_in hi (by omega)))) (fun i hi => by
    by_cases e : i = np
    · subst e; exact hv
    · rw [((ho (64 + i) (by omega) (by omega) (by omega) (by omega)).trans (xC_pa (by omega) (by omega)))]
      unfold xPo xpow xsp
      rw [show (fup (fup f 19 (upd (f 19) np c)) 20 (upd (f 20) np a)) 19 i = f 19 i from xud e, show (fup (fup f 19 (upd (f 19) np c)) 20 (upd (f 20) np a)) 20 i = f 20 i from xud e, show (fup jc 1 (upd (jc 1) np a)) 1 i = jc 1 i from xud e]
      rfl) (fun i hi => by
    by_cases e : i = np
    · subst e; exact hr
    · exact ((ho (96 + i) (by omega) (by omega) (by omega) (by omega)).trans (xC_pr (by omega) (by omega)))) (fun hz => by
    have q7 := aAd_n (B := 0) hz
    exact ((ho (aAd 0 nc) (by omega) (by omega) (by omega) (by omega)).trans (xC_l1 hz))) (fun hz => by
    have q7 := aAd_n (B := 10) hz
    exact ((ho (aAd 10 ni) (by omega) (by omega) (by omega) (by omega)).trans (xC_l2 hz))) (fun _ => hA) ((ho (340 + lGen nl) (by omega) (by omega) (by omega) (by omega)).trans xC_d1) ((ho (350 + lGen nl) (by omega) (by omega) (by omega) (by omega)).trans xC_d2) (fun j e h1 h2 h3 => (ho j (by omega) (by omega) (by omega) (by omega)).trans ((xC_ox (by omega) (by omega)).trans h3))
end XTO
