/-! the law's own rows -/
def xScr (Ln : Nat) (xs : Nat → Int32) (E : xEnv) : Prop := match E with
  | (_, _, _, _, s, _, _, _, _, _, _, _, N0, _, _, ad0, _) => va_X (ad0 908) Ln xs s s.heap ∧ ad0 908 < N0
abbrev nwLaw : Nat → Prop := fun j => j < 900
section XLAWR
variable {E : xEnv} {l9 : Launch} {N9 : Nat} {D9 : va_G} {T9 : Nat → ClassId} {cc : ByteArray} {own : String} {nL9 : Nat} {ret : Option FieldType} {tab : List ExceptionTableEntry} {R9 : Room} {nw9 : Nat → Prop} {k n : Nat} {hp : xH} {pc : Nat} {L : List (Nat × Value)} {S S' : List Value}
theorem a_scrGet (C : aC E l9 N9 D9 T9 cc own nL9 ret tab R9 nw9) {Ln i : Nat} {xs : Nat → Int32} (hX : xScr Ln xs E) (hd : decode cc pc = .ok (.iaload, 1)) (hi : i < Ln) (hL : Ln < 2 ^ 31) (kk : aW E k n hp (pc + 1) L (.int (xs i) :: S)) : aW E k n hp pc L (.int (nI i) :: .ref 908 :: S) := by
  obtain ⟨p, l, e, R, s, m, args, below, meth, c, D, dT, N0, nL, nw, ad0, Q⟩ := E
  obtain ⟨⟨hx, hb, hml, hown, hts⟩, hr, hlk, htab, hK, hZ, hnw, hst, rfl, rfl, rfl, rfl, rfl, rfl, rfl⟩ := C
  intro ad H locs ls ha hR hS hl
  have e9 : ad 908 = ad0 908 := ha 908 (hnw 908 (by decide))
  have w := kk ad H locs ls ha hR hS hl
  rw [← nI_clamp (show i < 2 ^ 31 by omega)] at w
  exact va_sld (b := ad 908) hx hb (by rw [e9]; exact hX.1) (by rw [e9]; exact Nat.lt_of_lt_of_le hX.2 hZ.1) (by rw [e9]; exact Nat.not_le.mpr hX.2) hS (vp_in_nI hi hL) hd w
theorem a_scrLen (C : aC E l9 N9 D9 T9 cc own nL9 ret tab R9 nw9) {Ln : Nat} {xs : Nat → Int32} (hX : xScr Ln xs E) (hd : decode cc pc = .ok (.arraylength, 1)) (kk : aW E k n hp (pc + 1) L (.int (nI Ln) :: S)) : aW E k n hp pc L (.ref 908 :: S) := by
  obtain ⟨p, l, e, R, s, m, args, below, meth, c, D, dT, N0, nL, nw, ad0, Q⟩ := E
  obtain ⟨⟨hx, hb, hml, hown, hts⟩, hr, hlk, htab, hK, hZ, hnw, hst, rfl, rfl, rfl, rfl, rfl, rfl, rfl⟩ := C
  intro ad H locs ls ha hR hS hl
  have e9 : ad 908 = ad0 908 := ha 908 (hnw 908 (by decide))
  exact va_slen (b := ad 908) hx hb (by rw [e9]; exact hX.1) (by rw [e9]; exact Nat.lt_of_lt_of_le hX.2 hZ.1) (by rw [e9]; exact Nat.not_le.mpr hX.2) hS hd (kk ad H locs ls ha hR hS hl)
theorem a_tabIn (C : aC E l9 N9 D9 T9 cc own nL9 ret tab R9 nw9) {dflt lo hi : Int} {offs : Array Int} {len : Nat} {x : Int32} {off : Int} {tgt : Nat} (hd : decode cc pc = .ok (.tableswitch dflt lo hi offs, len)) (h1 : ¬ x.toInt < lo) (h2 : ¬ hi < x.toInt) (ho : offs[(x.toInt - lo).toNat]? = some off) (ht : (pc : Int) + off = (tgt : Int)) (kk : aW E k n hp tgt L S) : aW E k n hp pc L (.int x :: S) := by
  obtain ⟨p, l, e, R, s, m, args, below, meth, c, D, dT, N0, nL, nw, ad0, Q⟩ := E
  obtain ⟨⟨hx, hb, hml, hown, hts⟩, hr, hlk, htab, hK, hZ, hnw, hst, rfl, rfl, rfl, rfl, rfl, rfl, rfl⟩ := C
  intro ad H locs ls ha hR hS hl
  exact lv_tableIn hx hb hd h1 h2 ho ht (kk ad H locs ls ha hR hS hl)
theorem a_tabOut (C : aC E l9 N9 D9 T9 cc own nL9 ret tab R9 nw9) {dflt lo hi : Int} {offs : Array Int} {len : Nat} {x : Int32} {tgt : Nat} (hd : decode cc pc = .ok (.tableswitch dflt lo hi offs, len)) (h : x.toInt < lo ∨ hi < x.toInt) (ht : (pc : Int) + dflt = (tgt : Int)) (kk : aW E k n hp tgt L S) : aW E k n hp pc L (.int x :: S) := by
  obtain ⟨p, l, e, R, s, m, args, below, meth, c, D, dT, N0, nL, nw, ad0, Q⟩ := E
  obtain ⟨⟨hx, hb, hml, hown, hts⟩, hr, hlk, htab, hK, hZ, hnw, hst, rfl, rfl, rfl, rfl, rfl, rfl, rfl⟩ := C
  intro ad H locs ls ha hR hS hl
  exact lv_tableOut hx hb hd h ht (kk ad H locs ls ha hR hS hl)
theorem aW_wide {k' n' : Nat} (hk : k ≤ k') (hn : n ≤ n') (kk : aW E k' n' hp pc L S) : aW E k n hp pc L S := by
  obtain ⟨p, l, e, R, s, m, args, below, meth, c, D, dT, N0, nL, nw, ad0, Q⟩ := E
  intro ad H locs ls ha hR hS hl
  exact W.widen hk hn (kk ad H locs ls ha hR hS hl)
end XLAWR
theorem xCM {h : xH} {n : Nat → Int32} {f f2 : Nat → Nat → Int32} {g g2 : Nat → Nat → Int64} {jc : Nat → Nat → Int32} {jr : Nat → Int64} {nc ni np nl : Nat} {t : Int32} : xC (xM h n f g) nc ni np nl t f2 g2 jc jr = xM (xC h nc ni np nl t f2 g2 jc jr) n f g := by
  funext j
  by_cases h1 : 200 ≤ j ∧ j ≤ 226
  · rw [xC_ox (by omega) (by omega)]
    unfold xM
    rw [xleT h1.1, xleT h1.2]; rfl
  · have e : ∀ h' : xH, xM h' n f g j = h' j := fun h' => by
      unfold xM
      have e2 : (Nat.ble 200 j && Nat.ble j 226) = false := by
        cases e3 : (Nat.ble 200 j && Nat.ble j 226) with
        | false => rfl
        | true =>
          have e4 := Bool.and_eq_true_iff.mp e3
          exact absurd ⟨Nat.le_of_ble_eq_true e4.1, Nat.le_of_ble_eq_true e4.2⟩ h1
      rw [e2]; rfl
    rw [e]
    unfold xC
    rw [e]
theorem lcmp_0 (x : Int64) : lg_cmp x x = 0 := by
  have h1 : ¬ x < x := fun z => by have := i64_lt.mp z; omega
  unfold lg_cmp
  simp
theorem nI_63 (x : Int32) : ∃ k, k < 64 ∧ x &&& 63 = nI k := by
  have e : x = nI x.toBitVec.toNat := by
    apply Int32.toBitVec_inj.1
    show x.toBitVec = BitVec.ofNat 32 x.toBitVec.toNat
    simp
  have e2 : ∀ a b : Nat, nI a &&& nI b = nI (a &&& b) := fun a b => by
    apply Int32.toBitVec_inj.1
    show BitVec.ofNat 32 a &&& BitVec.ofNat 32 b = BitVec.ofNat 32 (a &&& b)
    apply BitVec.eq_of_getLsbD_eq
    intro i hi
    simp [hi]
  refine ⟨x.toBitVec.toNat % 64, Nat.mod_lt _ (by omega), ?_⟩
  have e3 : nI x.toBitVec.toNat &&& 63 = nI (x.toBitVec.toNat % 64) := by
    show nI x.toBitVec.toNat &&& nI 63 = _
    rw [e2, show (63 : Nat) = 2 ^ 6 - 1 from rfl, Nat.and_two_pow_sub_one_eq_mod]
  rw [← e3, ← e]
/-- behind both calls: the codes are the same; answered: the answers too -/
theorem l_tail {E : xEnv} {l : Launch} {N0 : Nat} {D : va_G} {dT : Nat → ClassId} {ret : Option FieldType} {tab : List ExceptionTableEntry} (hflags : l.stackTraces = false) (C : aC E l N0 D dT cL_law "ReceivablesBookLaw" 7 ret tab room_1 nwLaw) {k ns i p0 : Nat} {o2 : Int64} {b : Int32} {nc ni np nl : Nat} {t : Int32} {f2 f' : Nat → Nat → Int32} {g2 g' : Nat → Nat → Int64} {n' : Nat → Int32} {jc : Nat → Nat → Int32} {jr : Nat → Int64} {off : Int} (d0 : decode cL_law (p0 + 0) = .ok (.istore 6, 2)) (d2 : decode cL_law (p0 + 2) = .ok (.aload_n 2, 1)) (d3 : decode cL_law (p0 + 3) = .ok (.invokevirtual 131, 3)) (d6 : decode cL_law (p0 + 6) = .ok (.iload 5, 2)) (d8 : decode cL_law (p0 + 8) = .ok (.if_icmp .eq 5, 3)) (d13 : decode cL_law (p0 + 13) = .ok (.iload 5, 2)) (d15 : decode cL_law (p0 + 15) = .ok (.ifCond .ne 15, 3)) (d18 : decode cL_law (p0 + 18) = .ok (.aload_n 3, 1)) (d19 : decode cL_law (p0 + 19) = .ok (.iconst 0, 1)) (d20 : decode cL_law (p0 + 20) = .ok (.laload, 1)) (d21 : decode cL_law (p0 + 21) = .ok (.iload 6, 2)) (d23 : decode cL_law (p0 + 23) = .ok (.i2l, 1)) (d24 : decode cL_law (p0 + 24) = .ok (.lcmp, 1)) (d25 : decode cL_law (p0 + 25) = .ok (.ifCond .eq 5, 3)) (d30 : decode cL_law (p0 + 30) = .ok (.goto off, 3)) (ht30 : ((p0 + 30 : Nat) : Int) + off = ((2412 : Nat) : Int)) (hk : k ≤ 601024) (hns : ns ≤ 7293034) (hb : n' 0 = 0 → o2 = b.toInt64) (kk : aW E k ns (xM (xC (xOut o2) nc ni np nl t f2 g2 jc jr) n' f' g') 2412 [(0, .ref 908), (1, .ref 0), (2, .ref 200), (3, .ref 230), (4, .int (nI i))] []) : aW E k ns (xM (xC (xOut o2) nc ni np nl t f2 g2 jc jr) n' f' g') p0 [(0, .ref 908), (1, .ref 0), (2, .ref 200), (3, .ref 230), (4, .int (nI i)), (5, .int (n' 0))] [.int b] := by
  refine a_istore (i := 6) C d0 (by decide) ?_
  refine a_aload_n (i := 2) C d2 rfl rfl ?_
  refine a_callV C d3 cv_X7_thrown tb1021 (m_X7_thrown hflags) rfl rfl xM_0 rfl (Nat.le_of_ble_eq_true rfl) ⟨Nat.le_of_ble_eq_true rfl, Nat.le_of_ble_eq_true rfl⟩ ⟨hk, hns⟩ (fun _ h => h.elim) xav_no (fun _ _ h => h.elim) (fun r hp hq => ?_)
  obtain ⟨rfl, rfl⟩ := hq
  refine a_iload (i := 5) C d6 rfl ?_
  refine a_icmp_eq (tgt := p0 + 13) C d8 (by omega) (fun _ => ?_) (fun z => absurd rfl z)
  refine a_iload (i := 5) C d13 rfl ?_
  have fin : aW E k ns (xM (xC (xOut o2) nc ni np nl t f2 g2 jc jr) n' f' g') (p0 + 30) (xset [(0, .ref 908), (1, .ref 0), (2, .ref 200), (3, .ref 230), (4, .int (nI i)), (5, .int (n' 0))] 6 (.int b)) [] := a_goto (tgt := 2412) C d30 ht30 (a_loc _ (xsub_cons rfl (xsub_cons rfl (xsub_cons rfl (xsub_cons rfl (xsub_cons rfl (xsub_nil)))))) kk)
  refine a_if_ne (tgt := p0 + 30) C d15 (by omega) (fun _ => fin) (fun c => ?_)
  refine a_aload_n (i := 3) C d18 rfl rfl ?_
  refine a_iconst (v := 0) C d19 (by decide) ?_
  refine a_laldI (i := 0) C d20 (show (xM (xC (xOut o2) nc ni np nl t f2 g2 jc jr) n' f' g') 230 = some (.inl (1, 1, .inr (.inl (fun q => if q = 0 then o2 else 0)))) from rfl) ⟨by decide, by decide⟩ ?_
  refine a_iload (i := 6) C d21 rfl ?_
  refine a_i2l C d23 ?_
  refine a_lcmp C d24 ?_
  refine a_top 0 (by show lg_cmp (if 0 = 0 then o2 else 0) b.toInt64 = 0; rw [if_pos rfl, hb c]; exact lcmp_0 _) ?_
  exact a_if_eq (tgt := p0 + 30) C d25 (by omega) (fun _ => fin) (fun z => absurd rfl z)
