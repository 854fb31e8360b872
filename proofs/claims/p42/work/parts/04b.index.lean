/-! Rows at an index that is a natural number's. -/
section XIDX
variable {E : xEnv} {l9 : Launch} {N9 : Nat} {D9 : va_G} {T9 : Nat → ClassId} {cc : ByteArray} {own : String} {nL9 : Nat} {ret : Option FieldType} {tab : List ExceptionTableEntry} {R9 : Room} {nw9 : Nat → Prop} {k n : Nat} {hp : xH} {pc : Nat} {L : List (Nat × Value)} {S : List Value}
theorem a_ialdI (C : aC E l9 N9 D9 T9 cc own nL9 ret tab R9 nw9) {a N i : Nat} {f : Nat → Int32} (hd : decode cc pc = .ok (.iaload, 1)) (hh : hp a = some (.inl (0, N, .inl f))) (hi : i < N ∧ N < 2 ^ 31) (kk : aW E k n hp (pc + 1) L (.int (f i) :: S)) : aW E k n hp pc L (.int (nI i) :: .ref a :: S) :=
  a_iald C hd hh (vp_in_nI hi.1 hi.2) (by rw [nI_clamp (Nat.lt_trans hi.1 hi.2)]; exact kk)
theorem a_laldI (C : aC E l9 N9 D9 T9 cc own nL9 ret tab R9 nw9) {a N i : Nat} {f : Nat → Int64} (hd : decode cc pc = .ok (.laload, 1)) (hh : hp a = some (.inl (1, N, .inr (.inl f)))) (hi : i < N ∧ N < 2 ^ 31) (kk : aW E k n hp (pc + 1) L (.long (f i) :: S)) : aW E k n hp pc L (.int (nI i) :: .ref a :: S) :=
  a_lald C hd hh (vp_in_nI hi.1 hi.2) (by rw [nI_clamp (Nat.lt_trans hi.1 hi.2)]; exact kk)
theorem a_aaldI (C : aC E l9 N9 D9 T9 cc own nL9 ret tab R9 nw9) {a N i q : Nat} {f : Nat → Option Nat} (hd : decode cc pc = .ok (.aaload, 1)) (hh : hp a = some (.inl (3, N, .inr (.inr (.inr (.inr f)))))) (hi : i < N ∧ N < 2 ^ 31) (hq : f i = some q) (kk : aW E k n hp (pc + 1) L (.ref q :: S)) : aW E k n hp pc L (.int (nI i) :: .ref a :: S) :=
  a_aald C hd hh (vp_in_nI hi.1 hi.2) (by rw [nI_clamp (Nat.lt_trans hi.1 hi.2), hq]; exact kk)
theorem a_iastI (C : aC E l9 N9 D9 T9 cc own nL9 ret tab R9 nw9) {a N i : Nat} {f : Nat → Int32} {x : Int32} (hd : decode cc pc = .ok (.iastore, 1)) (hh : hp a = some (.inl (0, N, .inl f))) (hi : i < N ∧ N < 2 ^ 31) (kk : aW E k n (xup hp a (.inl (0, N, .inl (upd f i x)))) (pc + 1) L S) : aW E k n hp pc L (.int x :: .int (nI i) :: .ref a :: S) :=
  a_iast C hd hh (vp_in_nI hi.1 hi.2) (by rw [nI_clamp (Nat.lt_trans hi.1 hi.2)]; exact kk)
theorem a_lastI (C : aC E l9 N9 D9 T9 cc own nL9 ret tab R9 nw9) {a N i : Nat} {f : Nat → Int64} {x : Int64} (hd : decode cc pc = .ok (.lastore, 1)) (hh : hp a = some (.inl (1, N, .inr (.inl f)))) (hi : i < N ∧ N < 2 ^ 31) (kk : aW E k n (xup hp a (.inl (1, N, .inr (.inl (vp_updL f i x))))) (pc + 1) L S) : aW E k n hp pc L (.long x :: .int (nI i) :: .ref a :: S) :=
  a_last C hd hh (vp_in_nI hi.1 hi.2) (by rw [nI_clamp (Nat.lt_trans hi.1 hi.2)]; exact kk)
theorem a_ialdV (C : aC E l9 N9 D9 T9 cc own nL9 ret tab R9 nw9) {a N i : Nat} {f : Nat → Int32} (v : Int32) (hd : decode cc pc = .ok (.iaload, 1)) (hh : hp a = some (.inl (0, N, .inl f))) (hi : i < N ∧ N < 2 ^ 31) (hv : f i = v) (kk : aW E k n hp (pc + 1) L (.int v :: S)) : aW E k n hp pc L (.int (nI i) :: .ref a :: S) := a_ialdI C hd hh hi (by rw [hv]; exact kk)
theorem a_laldV (C : aC E l9 N9 D9 T9 cc own nL9 ret tab R9 nw9) {a N i : Nat} {f : Nat → Int64} (v : Int64) (hd : decode cc pc = .ok (.laload, 1)) (hh : hp a = some (.inl (1, N, .inr (.inl f)))) (hi : i < N ∧ N < 2 ^ 31) (hv : f i = v) (kk : aW E k n hp (pc + 1) L (.long v :: S)) : aW E k n hp pc L (.int (nI i) :: .ref a :: S) := a_laldI C hd hh hi (by rw [hv]; exact kk)
/-- the stack's top, by another name -/
theorem a_top {x : Int32} (y : Int32) (h : x = y) (kk : aW E k n hp pc L (.int y :: S)) : aW E k n hp pc L (.int x :: S) := h ▸ kk
theorem a_topl {x : Int64} (y : Int64) (h : x = y) (kk : aW E k n hp pc L (.long y :: S)) : aW E k n hp pc L (.long x :: S) := h ▸ kk
end XIDX
theorem xle {a b : Nat} (ha : a < 2 ^ 31) (hb : b < 2 ^ 31) : nI a ≤ nI b ↔ a ≤ b := nI_leI ha hb
/-- a number is an index below c -/
abbrev xin (w : Int32) (c : Nat) : Prop := 0 ≤ w.toInt ∧ w.toInt < (c : Int)
theorem xin_nI {w : Int32} {c : Nat} (h : xin w c) (hc : c < 2 ^ 31) : ∃ j : Nat, j < c ∧ w = nI j := vp_in_of (vp_in_iff.mpr h) hc
theorem xin_of {j c : Nat} (h : j < c) (hc : c < 2 ^ 31) : xin (nI j) c := by
  unfold xin
  rw [nI_toInt (by omega)]
  omega
theorem xin_iff {w m : Int32} {c : Nat} (hm : m = nI c) (hc : c < 2 ^ 31) : (0 ≤ w ∧ w ≤ m - 1) ↔ xin w c := by
  subst hm
  unfold xin
  rw [Int32.le_iff_toInt_le, Int32.le_iff_toInt_le]
  have e : (nI c - 1).toInt = (c : Int) - 1 := by
    have h1 : (nI c - 1) = nI c - nI 1 := rfl
    rcases Nat.eq_zero_or_pos c with rfl | hp
    · rfl
    · rw [h1, pk_sub hp, nI_toInt (by omega)]; omega
  rw [e]
  constructor
  · intro h; exact ⟨h.1, by omega⟩
  · intro h; exact ⟨h.1, by omega⟩
theorem bI_congr {p q : Prop} [Decidable p] [Decidable q] (h : p ↔ q) : bI p = bI q := by
  by_cases hp : p
  · rw [bI_t hp, bI_t (h.mp hp)]
  · rw [bI_f hp, bI_f (fun z => hp (h.mpr z))]
theorem bN0 {p : Prop} [Decidable p] (h : bI (¬ p) = 0) : p := Classical.not_not.mp (bI_0.mp h)
theorem bNn {p : Prop} [Decidable p] (h : ¬ bI (¬ p) = 0) : ¬ p := bI_n0.mp h
theorem b0 {p : Prop} [Decidable p] (h : bI p = 0) : ¬ p := bI_0.mp h
theorem bn {p : Prop} [Decidable p] (h : ¬ bI p = 0) : p := bI_n0.mp h
