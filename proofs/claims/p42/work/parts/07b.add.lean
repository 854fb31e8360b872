/-- weaker behind -/
theorem xMet_post {l : Launch} {N0 : Nat} {D : va_G} {dT : Nat → ClassId} {y : MethodName} {b : ByteArray} {n : Nat} {ret : Option FieldType} {d mc ms : Nat} {as : List Value} {hp : xH} {nw nw' : Nat → Prop} {post post' : Option Value → xH → Prop} {px px' : String → xH → Prop} (h : xMet l N0 D dT y b n ret d mc ms as hp nw post px) (hn : ∀ j, nw j → nw' j) (hq : ∀ r h', post r h' → post' r h') (hx : ∀ r h', px r h' → px' r h') : xMet l N0 D dT y b n ret d mc ms as hp nw' post' px' := fun ad => by
  refine MetFree.mono (h ad) (fun _ _ z => z) (fun _ _ _ _ _ z => z) (fun a st o t _ hQ => ?_)
  rcases hQ with ⟨⟨r, hp', ad', e1, e2, e3, e4⟩, L, h1, h2⟩ | ⟨q, e0, E, ce, L, ⟨hp', ad', e2, e3, e4⟩, h3⟩
  · exact Or.inl ⟨⟨r, hp', ad', e1, hq _ _ e2, fun j hj => e3 j (fun z => hj (hn j z)), e4⟩, L, h1, h2⟩
  · exact Or.inr ⟨q, e0, E, ce, L, ⟨hp', ad', hx _ _ e2, fun j hj => e3 j (fun z => hj (hn j z)), e4⟩, h3⟩
theorem aG_stay {c : Nat} (h0 : 0 < c) (h : c < aCap c) : aCap (c + 1) = aCap c ∧ aGen (c + 1) = aGen c := by
  unfold aCap at h
  simp only [bif_ble] at h
  unfold aCap aGen
  rw [xb_f (show c ≠ 0 by omega), xb_f (show c + 1 ≠ 0 by omega)]
  simp only [bif_ble, cond_false]
  repeat' split at h
  all_goals (first | omega | (constructor <;> (repeat' split) <;> first | rfl | omega))
theorem aG_grow {c : Nat} (h0 : c < 24) (h : aCap c ≤ c) : (c = 10 ∨ c = 15 ∨ c = 22) := by
  unfold aCap at h
  simp only [bif_ble] at h
  repeat' split at h
  all_goals omega
theorem xLr_up {b c : Nat} : va_up (xLr b c) c (some (b + c)) = xLr b (c + 1) := by
  funext q
  unfold va_up xLr
  by_cases h : q = c
  · subst h
    rw [if_pos rfl, if_pos (Nat.lt_succ_self q)]
  · rw [if_neg h]
    by_cases h2 : q < c
    · rw [if_pos h2, if_pos (by omega)]
    · rw [if_neg h2, if_neg (by omega)]
theorem xLr_cp {b c : Nat} : va_cpy (xLr b c) (fun _ => none) 0 0 c = xLr b c := by
  funext q
  unfold va_cpy xLr
  by_cases h : q < c
  · rw [if_pos (by omega), Nat.sub_zero, Nat.zero_add, if_pos h]
  · rw [if_neg (by omega), if_neg h]
theorem xLr_0 {b : Nat} : va_up (fun _ => none) 0 (some (b + 0)) = xLr b 1 := by
  funext q
  unfold va_up xLr
  by_cases h : q = 0
  · subst h
    rw [if_pos rfl, if_pos (by decide)]
  · rw [if_neg h, if_neg (by omega)]
set_option maxRecDepth 100000 in
set_option maxHeartbeats 4000000 in
/-- a list grows by one -/
theorem m_addC {l : Launch} {N0 : Nat} {D : va_G} {dT : Nat → ClassId} (hflags : l.stackTraces = false) {hp : xH} {L B base c ci : Nat} {fs : List Value} {q : vw_C} (hL : hp L = some (.inr (0, xLo B c))) (hA : 0 < c → hp (aAd B c) = some (.inl (3, aCap c, .inr (.inr (.inr (.inr (xLr base c))))))) (hc : c < 24) (hB : B ≤ 20) (hL3 : L ≤ 3) (hb16 : 16 ≤ base) (hb64 : base ≤ 64) (hv : hp (base + c) = some (.inr (ci, fs))) (hcq : vwCl[ci]? = some q) (hca : Cond.castable q.1 "java/lang/Object" ∈ xTN) (hel : ∀ i, i < c → ∃ (ci : Nat) (fs : List Value) (q : vw_C), hp (base + i) = some (.inr (ci, fs)) ∧ vwCl[ci]? = some q ∧ Cond.castable q.1 "java/lang/Object" ∈ xTN) (hfr : aAd B (c + 1) ≠ aAd B c → ∀ j e, j ≠ aAd B (c + 1) → hp j = some e → xnr (aAd B (c + 1)) e) : xMet l N0 D dT yJx4a65c_add_9ea2d cJx4a65c_add_9ea2d 2 (some .boolean) 6 1 33 [.ref L, .ref (base + c)] hp (fun j => j = aAd B (c + 1) ∧ aAd B (c + 1) ≠ aAd B c) (fun r h => r = some (.int 1) ∧ h L = some (.inr (0, xLo B (c + 1))) ∧ h (aAd B (c + 1)) = some (.inl (3, aCap (c + 1), .inr (.inr (.inr (.inr (xLr base (c + 1))))))) ∧ ∀ j, j ≠ L → j ≠ aAd B (c + 1) → h j = hp j) xNX := by
  have hg := aGen_le (c + 1)
  have hg0 := aGen_le c
  have hn1 : aAd B (c + 1) = 300 + (B + aGen (c + 1)) := by unfold aAd; rw [xb_f (by omega)]; rfl
  by_cases h0 : c = 0
  · subst h0
    have hd : aAd B (0 + 1) ≠ aAd B 0 := by
      rw [hn1]
      show 300 + _ ≠ 901
      omega
    refine xMet_post (m_add_e hflags (b := aAd B (0 + 1)) (L := L) hL (by omega) (by omega) (hfr hd) hv hcq hca (by omega) (by omega)) (fun j hj => ⟨hj, hd⟩) ?_ (fun _ _ z => z)
    rintro r h' ⟨e1, rfl⟩
    refine ⟨e1, xup_s, ?_, fun j h1 h2 => ?_⟩
    · rw [xup_n (by omega), xup_s, xLr_0]
      rfl
    · rw [xup_n h1, xup_n h2, xup_n h1, xup_n h2, xup_n h1]
  · have hn0 : aAd B c = 300 + (B + aGen c) := by unfold aAd; rw [xb_f h0]; rfl
    by_cases h1 : c < aCap c
    · obtain ⟨g1, g2⟩ := aG_stay (by omega) h1
      have he : aAd B (c + 1) = aAd B c := by rw [hn1, hn0, g2]
      refine xMet_post (m_add_s hflags (L := L) (a := aAd B c) (c := c) (N := aCap c) hL (hA (by omega)) h1 (aCap_le c) (by omega) hv hcq hca (by omega)) (fun j hj => hj.elim) ?_ (fun _ _ z => z)
      rintro r h' ⟨e1, rfl⟩
      refine ⟨e1, ?_, ?_, fun j h3 h4 => ?_⟩
      · rw [xup_s]
        unfold xLo
        rw [he]
      · rw [he, g1, xup_n (by omega), xup_s, xLr_up]
      · rw [he] at h4
        rw [xup_n h3, xup_n h4, xup_n h3]
    · have hcc := aG_grow hc (by omega)
      have h2 := hA (by omega)
      have hcap : aCap c = c ∧ aCap (c + 1) = c + c / 2 ∧ aGen (c + 1) = aGen c + 1 := by
        rcases hcc with rfl | rfl | rfl <;> decide
      have hd : aAd B (c + 1) ≠ aAd B c := by omega
      rw [hcap.1] at h2
      refine xMet_post (m_add_g hflags (b := aAd B (c + 1)) (L := L) (a := aAd B c) (c := c) hL h2 hcc (by omega) (by omega) (by omega) (hfr hd) (fun i hi y hy => ?_) hv hcq hca (by omega) (by omega) (by omega)) (fun j hj => ⟨hj, hd⟩) ?_ (fun _ _ z => z)
      · have hy' : (if i < c then some (base + i) else none) = some y := hy
        rw [if_pos hi] at hy'
        cases hy'
        exact ⟨by omega, by omega, hel i hi⟩
      · rintro r h' ⟨e1, rfl⟩
        refine ⟨e1, xup_s, ?_, fun j h3 h4 => ?_⟩
        · rw [hcap.2.1, xup_n (by omega), xup_s, xLr_cp, xLr_up]
        · rw [xup_n h3, xup_n h4, xup_n h3, xup_n h4, xup_n h3]
