/-- a split in proportion: the shares rounded down, the remainders, and the cents that are left -/
def xs0 (f : Nat → Nat → Int32) (c a : Int32) (all : Int64) : Nat → Int32 := fun j => if xclr f c j = 0 then 0 else (a.toInt64 * xclr f c j / all).toInt32
def xr0 (f : Nat → Nat → Int32) (c a : Int32) (all : Int64) : Nat → Int64 := fun j => if xclr f c j = 0 then 0 else a.toInt64 * xclr f c j - a.toInt64 * xclr f c j / all * all
def xgr (R : Nat → Int64) : Nat → Nat
  | 0 => 0
  | k + 1 => if R (xgr R k) < R k then k else xgr R k
theorem xgr_s {R : Nat → Int64} {k : Nat} : xgr R (k + 1) = if R (xgr R k) < R k then k else xgr R k := rfl
theorem xgr_1 {R : Nat → Int64} : xgr R 1 = 0 := by
  rw [xgr_s]
  split <;> rfl
theorem xgr_lt {R : Nat → Int64} : ∀ k, xgr R (k + 1) < k + 1 := by
  intro k
  induction k with
  | zero => rw [xgr_1]; exact Nat.zero_lt_one
  | succ k ih =>
    rw [xgr_s]
    split
    · exact Nat.lt_succ_self _
    · exact Nat.lt_succ_of_lt ih
def xgive (ni : Nat) : Nat → (Nat → Int32) → (Nat → Int64) → (Nat → Int32) × (Nat → Int64)
  | 0, S, R => (S, R)
  | q + 1, S, R => xgive ni q (upd S (xgr R ni) (S (xgr R ni) + 1)) (vp_updL R (xgr R ni) 0)
def xall (f : Nat → Nat → Int32) (c : Int32) (ni : Nat) : Int64 := xsumL (xclr f c) ni
def xlft (f : Nat → Nat → Int32) (c a : Int32) (ni : Nat) : Nat → Int32 := xsubt a (xs0 f c a (xall f c ni))
def xspl (ni : Nat) (c a : Int32) (f : Nat → Nat → Int32) (g : Nat → Nat → Int64) : (Nat → Int32) × (Nat → Int64) := xgive ni (xlft f c a ni ni).toNatClampNeg (xpre (xs0 f c a (xall f c ni)) (f 25) ni) (xpreL (xr0 f c a (xall f c ni)) (g 26) ni)
theorem xcl0 {x : Int32} (h : x ≤ 0) : x.toNatClampNeg = 0 := by
  have h1 := Int32.le_iff_toInt_le.mp h
  rw [Int32.toInt_zero] at h1
  show x.toInt.toNat = 0
  omega
theorem xclr_fup {f : Nat → Nat → Int32} {c : Int32} {w : Nat → Int32} : xclr (fup f 25 w) c = xclr f c := rfl
theorem fup_id {f : Nat → Nat → Int32} {j : Nat} : fup f j (f j) = f := by
  funext k
  by_cases h : k = j
  · subst h; exact fup_s
  · exact fup_n h
theorem gup_id {f : Nat → Nat → Int64} {j : Nat} : gup f j (f j) = f := by
  funext k
  by_cases h : k = j
  · subst h; exact gup_s
  · exact gup_n h
set_option maxRecDepth 100000 in
set_option maxHeartbeats 4000000 in
theorem m_X7_split {l : Launch} {N0 : Nat} {D : va_G} {dT : Nat → ClassId} (hflags : l.stackTraces = false) {h : xH} {n : Nat → Int32} {f : Nat → Nat → Int32} {g : Nat → Nat → Int64} {nc ni np nl : Nat} (hI : xI n nc ni np nl) {c a : Int32} (hall : ∀ i, i < ni → ¬ xclr f c i = 0 → ¬ (xall f c ni) = 0)  : xMet l N0 D dT yX7_split cX7_split 9 none 2 0 0 [.ref 200, .int c, .int a] (xM h n f g) xNo (fun r h' => r = none ∧ h' = xM h n (fup f 25 (xspl ni c a f g).1) (gup g 26 (xspl ni c a f g).2)) xNX := by
  refine xMet_of hflags (by decide +kernel) (fun _ _ h => h) (Nat.le_of_ble_eq_true rfl) ?_
  intro E C I hret hthr
  refine a_loc [(0, .ref 200), (1, .int c), (2, .int a)] (xsub_cons rfl (xsub_cons rfl (xsub_cons rfl (xsub_nil)))) ?_
  obtain ⟨hc, hi, hpy, hln, hc6, hi24, hp24, hlm⟩ := id hI
  have inn : ∀ (q : Nat) (S : Nat → Int32) (R : Nat → Int64), (∀ j, j = xgr R ni → aW E 0 0 (xM h n (fup f 25 S) (gup g 26 R)) 167 [(0, .ref 200), (5, .int (nI (q + 1))), (6, .int (nI j))] []) → ∀ (k i : Nat), 1 ≤ i → i ≤ 25 → 25 < i + k → (ni ≤ i → xgr R i = xgr R ni) → aW E 0 0 (xM h n (fup f 25 S) (gup g 26 R)) 125 [(0, .ref 200), (5, .int (nI (q + 1))), (6, .int (nI (xgr R i))), (7, .int (nI i))] [] := by
    intro q S R hfin k
    induction k with
    | zero => intro i h0 h1 h2; exact absurd h2 (by omega)
    | succ k ih =>
      intro i h0 h1 h2 h3
      obtain ⟨i', rfl⟩ : ∃ i', i = i' + 1 := ⟨i - 1, by omega⟩
      have hgl := xgr_lt (R := R) i'
      refine a_iload (i := 7) C dX7_split_125 rfl ?_
      refine a_aload_n (i := 0) C dX7_split_127 rfl rfl ?_
      refine a_get C dX7_split_128 fl_X7_86 xM_0 (by first | exact congrArg (fun z => some (Value.int z)) hi | rfl) ?_
      refine a_icmp_ge (tgt := 167) C dX7_split_131 (by decide) (fun c131 => ?_) (fun c131 => ?_)
      · have hx := h3 ((xle (by omega) (by omega)).mp c131)
        refine a_loc _ ?_ (hfin _ hx)
        exact xsub_cons rfl (xsub_cons rfl (xsub_cons rfl xsub_nil))
      · have hl2 : i' + 1 < ni := by
          rcases Nat.lt_or_ge (i' + 1) ni with q2 | q2
          · exact q2
          · exact absurd ((xle (by omega) (by omega)).mpr q2) c131
        refine a_aload_n (i := 0) C dX7_split_134 rfl rfl ?_
        refine a_get C dX7_split_135 fl_X7_72 xM_0 rfl ?_
        refine a_iload (i := 7) C dX7_split_138 rfl ?_
        refine a_laldI C dX7_split_140 xM_26 ⟨by omega, by omega⟩ ?_
        refine a_aload_n (i := 0) C dX7_split_141 rfl rfl ?_
        refine a_get C dX7_split_142 fl_X7_72 xM_0 rfl ?_
        refine a_iload (i := 6) C dX7_split_145 rfl ?_
        refine a_laldI C dX7_split_147 xM_26 ⟨by omega, by omega⟩ ?_
        refine a_lcmp C dX7_split_148 ?_
        refine a_if_le (tgt := 157) C dX7_split_149 (by decide) (fun c149 => ?_) (fun c149 => ?_)
        · refine a_iload (i := 6) C dX7_split_157 rfl ?_
          refine a_top (nI (xgr R (i' + 1 + 1))) (by rw [xgr_s (k := i' + 1)]; first | (rw [if_neg ((lcmp_le (x := R (i' + 1)) (y := R (xgr R (i' + 1)))).mp c149)]; done) | (rw [if_pos (Classical.not_not.mp (fun z => c149 ((lcmp_le (x := R (i' + 1)) (y := R (xgr R (i' + 1)))).mpr z)))]; done)) ?_
          refine a_istore (i := 6) C dX7_split_159 (by decide) ?_
          refine a_iinc (i := 7) (v := nI (i' + 1 + 1)) C dX7_split_161 rfl (nI_1 (i' + 1)) (by decide) ?_
          refine a_goto (tgt := 125) C dX7_split_164 (by decide) ?_
          refine a_loc _ ?_ (ih (i' + 1 + 1) (by omega) (by omega) (by omega) (fun hle => by first | (rw [show i' + 1 + 1 = ni by omega]) | exact absurd hle (by omega)))
          exact xsub_cons rfl (xsub_cons rfl (xsub_cons rfl (xsub_cons rfl (xsub_nil))))
        · refine a_iload (i := 7) C dX7_split_152 rfl ?_
          refine a_goto (tgt := 159) C dX7_split_154 (by decide) ?_
          refine a_top (nI (xgr R (i' + 1 + 1))) (by rw [xgr_s (k := i' + 1)]; first | (rw [if_neg ((lcmp_le (x := R (i' + 1)) (y := R (xgr R (i' + 1)))).mp c149)]; done) | (rw [if_pos (Classical.not_not.mp (fun z => c149 ((lcmp_le (x := R (i' + 1)) (y := R (xgr R (i' + 1)))).mpr z)))]; done)) ?_
          refine a_istore (i := 6) C dX7_split_159 (by decide) ?_
          refine a_iinc (i := 7) (v := nI (i' + 1 + 1)) C dX7_split_161 rfl (nI_1 (i' + 1)) (by decide) ?_
          refine a_goto (tgt := 125) C dX7_split_164 (by decide) ?_
          refine a_loc _ ?_ (ih (i' + 1 + 1) (by omega) (by omega) (by omega) (fun hle => by first | (rw [show i' + 1 + 1 = ni by omega]) | exact absurd hle (by omega)))
          exact xsub_cons rfl (xsub_cons rfl (xsub_cons rfl (xsub_cons rfl (xsub_nil))))
  have out : ∀ (q : Nat) (S : Nat → Int32) (R : Nat → Int64), q < 2 ^ 31 → xgive ni q S R = xspl ni c a f g → aW E 0 0 (xM h n (fup f 25 S) (gup g 26 R)) 114 [(0, .ref 200), (5, .int (nI q))] [] := by
    intro q
    induction q with
    | zero =>
      intro S R hq ht
      refine a_iload (i := 5) C dX7_split_114 rfl ?_
      refine a_if_le (tgt := 192) C dX7_split_116 (by decide) (fun _ => ?_) (fun z => absurd (by decide) z)
      exact a_vret C dX7_split_192 (Nat.le_of_ble_eq_true rfl) (Nat.le_of_ble_eq_true rfl) (hret _ _ ⟨rfl, by rw [← ht]; rfl⟩)
    | succ q ih =>
      intro S R hq ht
      refine a_iload (i := 5) C dX7_split_114 rfl ?_
      refine a_if_le (tgt := 192) C dX7_split_116 (by decide) (fun z => absurd z (nI_nle (by omega) hq)) (fun _ => ?_)
      refine a_iconst (v := 0) C dX7_split_119 (by decide) ?_
      refine a_istore (i := 6) C dX7_split_120 (by decide) ?_
      refine a_iconst (v := 1) C dX7_split_122 (by decide) ?_
      refine a_istore (i := 7) C dX7_split_123 (by decide) ?_
      refine a_loc [(0, .ref 200), (5, .int (nI (q + 1))), (6, .int (nI (xgr R 1))), (7, .int (nI 1))] (xsub_cons rfl (xsub_cons rfl (xsub_cons (by rw [xgr_1]; rfl) (xsub_cons rfl xsub_nil)))) ?_
      refine inn q S R ?_ 25 1 (Nat.le_refl _) (by omega) (by omega) (fun hle => by
        rcases Nat.eq_or_lt_of_le hle with hz | hz
        · rw [hz]
        · rw [show ni = 0 by omega, xgr_1]; rfl)
      intro j hj
      have hj24 : j < 24 := by
        rw [hj]
        rcases Nat.eq_zero_or_pos ni with hz | hz
        · rw [hz]; exact Nat.zero_lt_of_lt (Nat.lt_succ_self 23)
        · obtain ⟨m, hm⟩ : ∃ m, ni = m + 1 := ⟨ni - 1, by omega⟩
          have := xgr_lt (R := R) m
          rw [hm]; omega
      refine a_aload_n (i := 0) C dX7_split_167 rfl rfl ?_
      refine a_get C dX7_split_168 fl_X7_69 xM_0 rfl ?_
      refine a_iload (i := 6) C dX7_split_171 rfl ?_
      refine a_dup2 C dX7_split_173 rfl rfl ?_
      refine a_ialdI C dX7_split_174 xM_25 ⟨by omega, by omega⟩ ?_
      refine a_iconst (v := 1) C dX7_split_175 (by decide) ?_
      refine a_iadd C dX7_split_176 ?_
      refine a_iastI C dX7_split_177 xM_25 ⟨by omega, by omega⟩ ?_
      refine a_hp xMw_25 ?_
      refine a_aload_n (i := 0) C dX7_split_178 rfl rfl ?_
      refine a_get C dX7_split_179 fl_X7_72 xM_0 rfl ?_
      refine a_iload (i := 6) C dX7_split_182 rfl ?_
      refine a_lconst (v := 0) C dX7_split_184 (by decide) ?_
      refine a_lastI C dX7_split_185 xM_26 ⟨by omega, by omega⟩ ?_
      refine a_hp xMw_26 ?_
      refine a_iinc (i := 5) (v := nI q) C dX7_split_186 rfl (pk_m1 q) (by decide) ?_
      refine a_goto (tgt := 114) C dX7_split_189 (by decide) ?_
      refine a_hp (show _ = xM h n (fup f 25 (upd S j (S j + 1))) (gup g 26 (vp_updL R j 0)) by rw [fup_ff, gup_gg]; try rfl) ?_
      refine a_loc _ ?_ (ih (upd S j (S j + 1)) (vp_updL R j 0) (by omega) (by rw [← ht, hj]; rfl))
      exact xsub_cons rfl (xsub_cons rfl xsub_nil)
  have loop : ∀ (k i : Nat), i ≤ ni → ni < i + k → aW E 0 0 (xM h n (fup f 25 (xpre (xs0 f c a (xall f c ni)) (f 25) i)) (gup g 26 (xpreL (xr0 f c a (xall f c ni)) (g 26) i))) 12 [(0, .ref 200), (1, .int c), (2, .int a), (3, .long (xall f c ni)), (5, .int (xlft f c a ni i)), (6, .int (nI i))] [] := by
    intro k
    induction k with
    | zero => intro i h1 h2; exact absurd h2 (by omega)
    | succ k ih =>
      intro i h1 h2
      refine a_iload (i := 6) C dX7_split_12 rfl ?_
      refine a_aload_n (i := 0) C dX7_split_14 rfl rfl ?_
      refine a_get C dX7_split_15 fl_X7_86 xM_0 (by first | exact congrArg (fun z => some (Value.int z)) hi | rfl) ?_
      refine a_icmp_ge (tgt := 114) C dX7_split_18 (by decide) (fun c18 => ?_) (fun c18 => ?_)
      · have hie : i = ni := by
          have := (xle (by omega) (by omega)).mp c18
          omega
        rw [hie]
        refine a_loc [(0, .ref 200), (5, .int (xlft f c a ni ni))] (xsub_cons rfl (xsub_cons rfl xsub_nil)) ?_
        by_cases hq0 : xlft f c a ni ni ≤ 0
        · refine a_iload (i := 5) C dX7_split_114 rfl ?_
          refine a_if_le (tgt := 192) C dX7_split_116 (by decide) (fun _ => ?_) (fun z => absurd hq0 z)
          have hz : (xlft f c a ni ni).toNatClampNeg = 0 := xcl0 hq0
          exact a_vret C dX7_split_192 (Nat.le_of_ble_eq_true rfl) (Nat.le_of_ble_eq_true rfl) (hret _ _ ⟨rfl, by unfold xspl; rw [hz]; rfl⟩)
        obtain ⟨q, hq, eq⟩ := nI_of (x := xlft f c a ni ni) (fun z => hq0 (Int32.le_of_lt z))
        rw [eq]
        exact out q _ _ hq (by unfold xspl; rw [eq, nI_clamp hq])
      · have hlt : i < ni := by
          rcases Nat.lt_or_ge i ni with q | q
          · exact q
          · exact absurd ((xle (by omega) (by omega)).mpr q) c18
        refine a_aload_n (i := 0) C dX7_split_21 rfl rfl ?_
        refine a_get C dX7_split_22 fl_X7_22 xM_0 rfl ?_
        refine a_iload (i := 6) C dX7_split_25 rfl ?_
        refine a_ialdI C dX7_split_27 xM_10 ⟨by omega, by omega⟩ ?_
        refine a_iload_n (i := 1) C dX7_split_28 rfl rfl ?_
        refine a_icmp_ne (tgt := 42) C dX7_split_29 (by decide) (fun c29 => ?_) (fun c29 => ?_)
        · refine a_lconst (v := 0) C dX7_split_42 (by decide) ?_
          refine a_topl (xclr f c i) (by show _ = (if f 10 i = c then _ else _); first | (rw [if_pos (show f 10 i = c from c29)]; rfl) | (rw [if_neg (show ¬ f 10 i = c from c29)]; done)) ?_
          refine a_lstore (i := 7) C dX7_split_43 (by decide) ?_
          refine a_aload_n (i := 0) C dX7_split_45 rfl rfl ?_
          refine a_get C dX7_split_46 fl_X7_69 xM_0 rfl ?_
          refine a_iload (i := 6) C dX7_split_49 rfl ?_
          refine a_lload (i := 7) C dX7_split_51 rfl ?_
          refine a_lconst (v := 0) C dX7_split_53 (by decide) ?_
          refine a_lcmp C dX7_split_54 ?_
          refine a_if_ne (tgt := 62) C dX7_split_55 (by decide) (fun c55 => ?_) (fun c55 => ?_)
          · have hw0 : ¬ xclr f c i = 0 := fun z => c55 (lcmp_eq.mpr z)
            have ha0 := hall i hlt hw0
            refine a_iload_n (i := 2) C dX7_split_62 rfl rfl ?_
            refine a_i2l C dX7_split_63 ?_
            refine a_lload (i := 7) C dX7_split_64 rfl ?_
            refine a_lmul C dX7_split_66 ?_
            refine a_lload_n (i := 3) C dX7_split_67 rfl rfl ?_
            refine a_ldiv C dX7_split_68 ha0 ?_
            refine a_l2i C dX7_split_69 ?_
            refine a_top (xs0 f c a (xall f c ni) i) (by unfold xs0; first | (rw [if_neg hw0]; done) | (rw [if_pos (lcmp_eq.mp c55)]; done)) ?_
            refine a_iastI C dX7_split_70 xM_25 ⟨by omega, by omega⟩ ?_
            refine a_hp xMw_25 ?_
            refine a_hp (show _ = xM h n (fup f 25 (xpre (xs0 f c a (xall f c ni)) (f 25) (i + 1))) (gup g 26 (xpreL (xr0 f c a (xall f c ni)) (g 26) i)) by rw [fup_ff]; exact congrArg (fun z => xM h n (fup f 25 z) _) xpre_s) ?_
            refine a_aload_n (i := 0) C dX7_split_71 rfl rfl ?_
            refine a_get C dX7_split_72 fl_X7_72 xM_0 rfl ?_
            refine a_iload (i := 6) C dX7_split_75 rfl ?_
            refine a_lload (i := 7) C dX7_split_77 rfl ?_
            refine a_lconst (v := 0) C dX7_split_79 (by decide) ?_
            refine a_lcmp C dX7_split_80 ?_
            refine a_if_ne (tgt := 88) C dX7_split_81 (by decide) (fun c81 => ?_) (fun c81 => ?_)
            · have hw1 : ¬ xclr f c i = 0 := fun z => c81 (lcmp_eq.mpr z)
              have ha1 := hall i hlt hw1
              refine a_iload_n (i := 2) C dX7_split_88 rfl rfl ?_
              refine a_i2l C dX7_split_89 ?_
              refine a_lload (i := 7) C dX7_split_90 rfl ?_
              refine a_lmul C dX7_split_92 ?_
              refine a_lload_n (i := 3) C dX7_split_93 rfl rfl ?_
              refine a_lrem C dX7_split_94 ha1 ?_
              refine a_topl (xr0 f c a (xall f c ni) i) (by unfold xr0; first | (rw [if_neg hw1]; done) | (rw [if_pos (lcmp_eq.mp c81)]; done)) ?_
              refine a_lastI C dX7_split_95 xM_26 ⟨by omega, by omega⟩ ?_
              refine a_hp xMw_26 ?_
              refine a_hp (show _ = xM h n (fup f 25 (xpre (xs0 f c a (xall f c ni)) (f 25) (i + 1))) (gup g 26 (xpreL (xr0 f c a (xall f c ni)) (g 26) (i + 1))) by rw [gup_gg]; exact congrArg (fun z => xM h n _ (gup g 26 z)) xpreL_s) ?_
              refine a_iload (i := 5) C dX7_split_96 rfl ?_
              refine a_aload_n (i := 0) C dX7_split_98 rfl rfl ?_
              refine a_get C dX7_split_99 fl_X7_69 xM_0 rfl ?_
              refine a_iload (i := 6) C dX7_split_102 rfl ?_
              refine a_ialdV C (xs0 f c a (xall f c ni) i) dX7_split_104 xM_25 ⟨by omega, by omega⟩ (xpre_lt (Nat.lt_succ_self i)) ?_
              refine a_isub C dX7_split_105 ?_
              refine a_istore (i := 5) C dX7_split_106 (by decide) ?_
              refine a_iinc (i := 6) (v := nI (i + 1)) C dX7_split_108 rfl (nI_1 i) (by decide) ?_
              refine a_goto (tgt := 12) C dX7_split_111 (by decide) ?_
              refine a_loc _ ?_ (ih (i + 1) (by omega) (by omega))
              exact xsub_cons rfl (xsub_cons rfl (xsub_cons rfl (xsub_cons rfl (xsub_cons rfl (xsub_cons rfl (xsub_nil))))))
            · refine a_lconst (v := 0) C dX7_split_84 (by decide) ?_
              refine a_goto (tgt := 95) C dX7_split_85 (by decide) ?_
              refine a_topl (xr0 f c a (xall f c ni) i) (by unfold xr0; first | (rw [if_neg hw1]; done) | (rw [if_pos (lcmp_eq.mp c81)]; done)) ?_
              refine a_lastI C dX7_split_95 xM_26 ⟨by omega, by omega⟩ ?_
              refine a_hp xMw_26 ?_
              refine a_hp (show _ = xM h n (fup f 25 (xpre (xs0 f c a (xall f c ni)) (f 25) (i + 1))) (gup g 26 (xpreL (xr0 f c a (xall f c ni)) (g 26) (i + 1))) by rw [gup_gg]; exact congrArg (fun z => xM h n _ (gup g 26 z)) xpreL_s) ?_
              refine a_iload (i := 5) C dX7_split_96 rfl ?_
              refine a_aload_n (i := 0) C dX7_split_98 rfl rfl ?_
              refine a_get C dX7_split_99 fl_X7_69 xM_0 rfl ?_
              refine a_iload (i := 6) C dX7_split_102 rfl ?_
              refine a_ialdV C (xs0 f c a (xall f c ni) i) dX7_split_104 xM_25 ⟨by omega, by omega⟩ (xpre_lt (Nat.lt_succ_self i)) ?_
              refine a_isub C dX7_split_105 ?_
              refine a_istore (i := 5) C dX7_split_106 (by decide) ?_
              refine a_iinc (i := 6) (v := nI (i + 1)) C dX7_split_108 rfl (nI_1 i) (by decide) ?_
              refine a_goto (tgt := 12) C dX7_split_111 (by decide) ?_
              refine a_loc _ ?_ (ih (i + 1) (by omega) (by omega))
              exact xsub_cons rfl (xsub_cons rfl (xsub_cons rfl (xsub_cons rfl (xsub_cons rfl (xsub_cons rfl (xsub_nil))))))
          · refine a_iconst (v := 0) C dX7_split_58 (by decide) ?_
            refine a_goto (tgt := 70) C dX7_split_59 (by decide) ?_
            refine a_top (xs0 f c a (xall f c ni) i) (by unfold xs0; first | (rw [if_neg hw0]; done) | (rw [if_pos (lcmp_eq.mp c55)]; done)) ?_
            refine a_iastI C dX7_split_70 xM_25 ⟨by omega, by omega⟩ ?_
            refine a_hp xMw_25 ?_
            refine a_hp (show _ = xM h n (fup f 25 (xpre (xs0 f c a (xall f c ni)) (f 25) (i + 1))) (gup g 26 (xpreL (xr0 f c a (xall f c ni)) (g 26) i)) by rw [fup_ff]; exact congrArg (fun z => xM h n (fup f 25 z) _) xpre_s) ?_
            refine a_aload_n (i := 0) C dX7_split_71 rfl rfl ?_
            refine a_get C dX7_split_72 fl_X7_72 xM_0 rfl ?_
            refine a_iload (i := 6) C dX7_split_75 rfl ?_
            refine a_lload (i := 7) C dX7_split_77 rfl ?_
            refine a_lconst (v := 0) C dX7_split_79 (by decide) ?_
            refine a_lcmp C dX7_split_80 ?_
            refine a_if_ne (tgt := 88) C dX7_split_81 (by decide) (fun c81 => ?_) (fun c81 => ?_)
            · have hw1 : ¬ xclr f c i = 0 := fun z => c81 (lcmp_eq.mpr z)
              have ha1 := hall i hlt hw1
              refine a_iload_n (i := 2) C dX7_split_88 rfl rfl ?_
              refine a_i2l C dX7_split_89 ?_
              refine a_lload (i := 7) C dX7_split_90 rfl ?_
              refine a_lmul C dX7_split_92 ?_
              refine a_lload_n (i := 3) C dX7_split_93 rfl rfl ?_
              refine a_lrem C dX7_split_94 ha1 ?_
              refine a_topl (xr0 f c a (xall f c ni) i) (by unfold xr0; first | (rw [if_neg hw1]; done) | (rw [if_pos (lcmp_eq.mp c81)]; done)) ?_
              refine a_lastI C dX7_split_95 xM_26 ⟨by omega, by omega⟩ ?_
              refine a_hp xMw_26 ?_
              refine a_hp (show _ = xM h n (fup f 25 (xpre (xs0 f c a (xall f c ni)) (f 25) (i + 1))) (gup g 26 (xpreL (xr0 f c a (xall f c ni)) (g 26) (i + 1))) by rw [gup_gg]; exact congrArg (fun z => xM h n _ (gup g 26 z)) xpreL_s) ?_
              refine a_iload (i := 5) C dX7_split_96 rfl ?_
              refine a_aload_n (i := 0) C dX7_split_98 rfl rfl ?_
              refine a_get C dX7_split_99 fl_X7_69 xM_0 rfl ?_
              refine a_iload (i := 6) C dX7_split_102 rfl ?_
              refine a_ialdV C (xs0 f c a (xall f c ni) i) dX7_split_104 xM_25 ⟨by omega, by omega⟩ (xpre_lt (Nat.lt_succ_self i)) ?_
              refine a_isub C dX7_split_105 ?_
              refine a_istore (i := 5) C dX7_split_106 (by decide) ?_
              refine a_iinc (i := 6) (v := nI (i + 1)) C dX7_split_108 rfl (nI_1 i) (by decide) ?_
              refine a_goto (tgt := 12) C dX7_split_111 (by decide) ?_
              refine a_loc _ ?_ (ih (i + 1) (by omega) (by omega))
              exact xsub_cons rfl (xsub_cons rfl (xsub_cons rfl (xsub_cons rfl (xsub_cons rfl (xsub_cons rfl (xsub_nil))))))
            · refine a_lconst (v := 0) C dX7_split_84 (by decide) ?_
              refine a_goto (tgt := 95) C dX7_split_85 (by decide) ?_
              refine a_topl (xr0 f c a (xall f c ni) i) (by unfold xr0; first | (rw [if_neg hw1]; done) | (rw [if_pos (lcmp_eq.mp c81)]; done)) ?_
              refine a_lastI C dX7_split_95 xM_26 ⟨by omega, by omega⟩ ?_
              refine a_hp xMw_26 ?_
              refine a_hp (show _ = xM h n (fup f 25 (xpre (xs0 f c a (xall f c ni)) (f 25) (i + 1))) (gup g 26 (xpreL (xr0 f c a (xall f c ni)) (g 26) (i + 1))) by rw [gup_gg]; exact congrArg (fun z => xM h n _ (gup g 26 z)) xpreL_s) ?_
              refine a_iload (i := 5) C dX7_split_96 rfl ?_
              refine a_aload_n (i := 0) C dX7_split_98 rfl rfl ?_
              refine a_get C dX7_split_99 fl_X7_69 xM_0 rfl ?_
              refine a_iload (i := 6) C dX7_split_102 rfl ?_
              refine a_ialdV C (xs0 f c a (xall f c ni) i) dX7_split_104 xM_25 ⟨by omega, by omega⟩ (xpre_lt (Nat.lt_succ_self i)) ?_
              refine a_isub C dX7_split_105 ?_
              refine a_istore (i := 5) C dX7_split_106 (by decide) ?_
              refine a_iinc (i := 6) (v := nI (i + 1)) C dX7_split_108 rfl (nI_1 i) (by decide) ?_
              refine a_goto (tgt := 12) C dX7_split_111 (by decide) ?_
              refine a_loc _ ?_ (ih (i + 1) (by omega) (by omega))
              exact xsub_cons rfl (xsub_cons rfl (xsub_cons rfl (xsub_cons rfl (xsub_cons rfl (xsub_cons rfl (xsub_nil))))))
        · refine a_aload_n (i := 0) C dX7_split_32 rfl rfl ?_
          refine a_iload (i := 6) C dX7_split_33 rfl ?_
          refine a_callV C dX7_split_35 cv_X7_clear tb1068 (m_X7_clear hflags (i := i) (by omega)) rfl rfl xM_0 rfl (Nat.le_of_ble_eq_true rfl) ⟨Nat.le_of_ble_eq_true rfl, Nat.le_of_ble_eq_true rfl⟩ ⟨Nat.le_of_ble_eq_true rfl, Nat.le_of_ble_eq_true rfl⟩ (fun _ h => h.elim) xav_no (fun _ _ h => h.elim) (fun r35 hp35 hq35 => ?_)
          obtain ⟨rfl, rfl⟩ := hq35
          refine a_i2l C dX7_split_38 ?_
          refine a_goto (tgt := 43) C dX7_split_39 (by decide) ?_
          refine a_topl (xclr f c i) (by show _ = (if f 10 i = c then _ else _); first | (rw [if_pos (show f 10 i = c from c29)]; rfl) | (rw [if_neg (show ¬ f 10 i = c from c29)]; done)) ?_
          refine a_lstore (i := 7) C dX7_split_43 (by decide) ?_
          refine a_aload_n (i := 0) C dX7_split_45 rfl rfl ?_
          refine a_get C dX7_split_46 fl_X7_69 xM_0 rfl ?_
          refine a_iload (i := 6) C dX7_split_49 rfl ?_
          refine a_lload (i := 7) C dX7_split_51 rfl ?_
          refine a_lconst (v := 0) C dX7_split_53 (by decide) ?_
          refine a_lcmp C dX7_split_54 ?_
          refine a_if_ne (tgt := 62) C dX7_split_55 (by decide) (fun c55 => ?_) (fun c55 => ?_)
          · have hw0 : ¬ xclr f c i = 0 := fun z => c55 (lcmp_eq.mpr z)
            have ha0 := hall i hlt hw0
            refine a_iload_n (i := 2) C dX7_split_62 rfl rfl ?_
            refine a_i2l C dX7_split_63 ?_
            refine a_lload (i := 7) C dX7_split_64 rfl ?_
            refine a_lmul C dX7_split_66 ?_
            refine a_lload_n (i := 3) C dX7_split_67 rfl rfl ?_
            refine a_ldiv C dX7_split_68 ha0 ?_
            refine a_l2i C dX7_split_69 ?_
            refine a_top (xs0 f c a (xall f c ni) i) (by unfold xs0; first | (rw [if_neg hw0]; done) | (rw [if_pos (lcmp_eq.mp c55)]; done)) ?_
            refine a_iastI C dX7_split_70 xM_25 ⟨by omega, by omega⟩ ?_
            refine a_hp xMw_25 ?_
            refine a_hp (show _ = xM h n (fup f 25 (xpre (xs0 f c a (xall f c ni)) (f 25) (i + 1))) (gup g 26 (xpreL (xr0 f c a (xall f c ni)) (g 26) i)) by rw [fup_ff]; exact congrArg (fun z => xM h n (fup f 25 z) _) xpre_s) ?_
            refine a_aload_n (i := 0) C dX7_split_71 rfl rfl ?_
            refine a_get C dX7_split_72 fl_X7_72 xM_0 rfl ?_
            refine a_iload (i := 6) C dX7_split_75 rfl ?_
            refine a_lload (i := 7) C dX7_split_77 rfl ?_
            refine a_lconst (v := 0) C dX7_split_79 (by decide) ?_
            refine a_lcmp C dX7_split_80 ?_
            refine a_if_ne (tgt := 88) C dX7_split_81 (by decide) (fun c81 => ?_) (fun c81 => ?_)
            · have hw1 : ¬ xclr f c i = 0 := fun z => c81 (lcmp_eq.mpr z)
              have ha1 := hall i hlt hw1
              refine a_iload_n (i := 2) C dX7_split_88 rfl rfl ?_
              refine a_i2l C dX7_split_89 ?_
              refine a_lload (i := 7) C dX7_split_90 rfl ?_
              refine a_lmul C dX7_split_92 ?_
              refine a_lload_n (i := 3) C dX7_split_93 rfl rfl ?_
              refine a_lrem C dX7_split_94 ha1 ?_
              refine a_topl (xr0 f c a (xall f c ni) i) (by unfold xr0; first | (rw [if_neg hw1]; done) | (rw [if_pos (lcmp_eq.mp c81)]; done)) ?_
              refine a_lastI C dX7_split_95 xM_26 ⟨by omega, by omega⟩ ?_
              refine a_hp xMw_26 ?_
              refine a_hp (show _ = xM h n (fup f 25 (xpre (xs0 f c a (xall f c ni)) (f 25) (i + 1))) (gup g 26 (xpreL (xr0 f c a (xall f c ni)) (g 26) (i + 1))) by rw [gup_gg]; exact congrArg (fun z => xM h n _ (gup g 26 z)) xpreL_s) ?_
              refine a_iload (i := 5) C dX7_split_96 rfl ?_
              refine a_aload_n (i := 0) C dX7_split_98 rfl rfl ?_
              refine a_get C dX7_split_99 fl_X7_69 xM_0 rfl ?_
              refine a_iload (i := 6) C dX7_split_102 rfl ?_
              refine a_ialdV C (xs0 f c a (xall f c ni) i) dX7_split_104 xM_25 ⟨by omega, by omega⟩ (xpre_lt (Nat.lt_succ_self i)) ?_
              refine a_isub C dX7_split_105 ?_
              refine a_istore (i := 5) C dX7_split_106 (by decide) ?_
              refine a_iinc (i := 6) (v := nI (i + 1)) C dX7_split_108 rfl (nI_1 i) (by decide) ?_
              refine a_goto (tgt := 12) C dX7_split_111 (by decide) ?_
              refine a_loc _ ?_ (ih (i + 1) (by omega) (by omega))
              exact xsub_cons rfl (xsub_cons rfl (xsub_cons rfl (xsub_cons rfl (xsub_cons rfl (xsub_cons rfl (xsub_nil))))))
            · refine a_lconst (v := 0) C dX7_split_84 (by decide) ?_
              refine a_goto (tgt := 95) C dX7_split_85 (by decide) ?_
              refine a_topl (xr0 f c a (xall f c ni) i) (by unfold xr0; first | (rw [if_neg hw1]; done) | (rw [if_pos (lcmp_eq.mp c81)]; done)) ?_
              refine a_lastI C dX7_split_95 xM_26 ⟨by omega, by omega⟩ ?_
              refine a_hp xMw_26 ?_
              refine a_hp (show _ = xM h n (fup f 25 (xpre (xs0 f c a (xall f c ni)) (f 25) (i + 1))) (gup g 26 (xpreL (xr0 f c a (xall f c ni)) (g 26) (i + 1))) by rw [gup_gg]; exact congrArg (fun z => xM h n _ (gup g 26 z)) xpreL_s) ?_
              refine a_iload (i := 5) C dX7_split_96 rfl ?_
              refine a_aload_n (i := 0) C dX7_split_98 rfl rfl ?_
              refine a_get C dX7_split_99 fl_X7_69 xM_0 rfl ?_
              refine a_iload (i := 6) C dX7_split_102 rfl ?_
              refine a_ialdV C (xs0 f c a (xall f c ni) i) dX7_split_104 xM_25 ⟨by omega, by omega⟩ (xpre_lt (Nat.lt_succ_self i)) ?_
              refine a_isub C dX7_split_105 ?_
              refine a_istore (i := 5) C dX7_split_106 (by decide) ?_
              refine a_iinc (i := 6) (v := nI (i + 1)) C dX7_split_108 rfl (nI_1 i) (by decide) ?_
              refine a_goto (tgt := 12) C dX7_split_111 (by decide) ?_
              refine a_loc _ ?_ (ih (i + 1) (by omega) (by omega))
              exact xsub_cons rfl (xsub_cons rfl (xsub_cons rfl (xsub_cons rfl (xsub_cons rfl (xsub_cons rfl (xsub_nil))))))
          · refine a_iconst (v := 0) C dX7_split_58 (by decide) ?_
            refine a_goto (tgt := 70) C dX7_split_59 (by decide) ?_
            refine a_top (xs0 f c a (xall f c ni) i) (by unfold xs0; first | (rw [if_neg hw0]; done) | (rw [if_pos (lcmp_eq.mp c55)]; done)) ?_
            refine a_iastI C dX7_split_70 xM_25 ⟨by omega, by omega⟩ ?_
            refine a_hp xMw_25 ?_
            refine a_hp (show _ = xM h n (fup f 25 (xpre (xs0 f c a (xall f c ni)) (f 25) (i + 1))) (gup g 26 (xpreL (xr0 f c a (xall f c ni)) (g 26) i)) by rw [fup_ff]; exact congrArg (fun z => xM h n (fup f 25 z) _) xpre_s) ?_
            refine a_aload_n (i := 0) C dX7_split_71 rfl rfl ?_
            refine a_get C dX7_split_72 fl_X7_72 xM_0 rfl ?_
            refine a_iload (i := 6) C dX7_split_75 rfl ?_
            refine a_lload (i := 7) C dX7_split_77 rfl ?_
            refine a_lconst (v := 0) C dX7_split_79 (by decide) ?_
            refine a_lcmp C dX7_split_80 ?_
            refine a_if_ne (tgt := 88) C dX7_split_81 (by decide) (fun c81 => ?_) (fun c81 => ?_)
            · have hw1 : ¬ xclr f c i = 0 := fun z => c81 (lcmp_eq.mpr z)
              have ha1 := hall i hlt hw1
              refine a_iload_n (i := 2) C dX7_split_88 rfl rfl ?_
              refine a_i2l C dX7_split_89 ?_
              refine a_lload (i := 7) C dX7_split_90 rfl ?_
              refine a_lmul C dX7_split_92 ?_
              refine a_lload_n (i := 3) C dX7_split_93 rfl rfl ?_
              refine a_lrem C dX7_split_94 ha1 ?_
              refine a_topl (xr0 f c a (xall f c ni) i) (by unfold xr0; first | (rw [if_neg hw1]; done) | (rw [if_pos (lcmp_eq.mp c81)]; done)) ?_
              refine a_lastI C dX7_split_95 xM_26 ⟨by omega, by omega⟩ ?_
              refine a_hp xMw_26 ?_
              refine a_hp (show _ = xM h n (fup f 25 (xpre (xs0 f c a (xall f c ni)) (f 25) (i + 1))) (gup g 26 (xpreL (xr0 f c a (xall f c ni)) (g 26) (i + 1))) by rw [gup_gg]; exact congrArg (fun z => xM h n _ (gup g 26 z)) xpreL_s) ?_
              refine a_iload (i := 5) C dX7_split_96 rfl ?_
              refine a_aload_n (i := 0) C dX7_split_98 rfl rfl ?_
              refine a_get C dX7_split_99 fl_X7_69 xM_0 rfl ?_
              refine a_iload (i := 6) C dX7_split_102 rfl ?_
              refine a_ialdV C (xs0 f c a (xall f c ni) i) dX7_split_104 xM_25 ⟨by omega, by omega⟩ (xpre_lt (Nat.lt_succ_self i)) ?_
              refine a_isub C dX7_split_105 ?_
              refine a_istore (i := 5) C dX7_split_106 (by decide) ?_
              refine a_iinc (i := 6) (v := nI (i + 1)) C dX7_split_108 rfl (nI_1 i) (by decide) ?_
              refine a_goto (tgt := 12) C dX7_split_111 (by decide) ?_
              refine a_loc _ ?_ (ih (i + 1) (by omega) (by omega))
              exact xsub_cons rfl (xsub_cons rfl (xsub_cons rfl (xsub_cons rfl (xsub_cons rfl (xsub_cons rfl (xsub_nil))))))
            · refine a_lconst (v := 0) C dX7_split_84 (by decide) ?_
              refine a_goto (tgt := 95) C dX7_split_85 (by decide) ?_
              refine a_topl (xr0 f c a (xall f c ni) i) (by unfold xr0; first | (rw [if_neg hw1]; done) | (rw [if_pos (lcmp_eq.mp c81)]; done)) ?_
              refine a_lastI C dX7_split_95 xM_26 ⟨by omega, by omega⟩ ?_
              refine a_hp xMw_26 ?_
              refine a_hp (show _ = xM h n (fup f 25 (xpre (xs0 f c a (xall f c ni)) (f 25) (i + 1))) (gup g 26 (xpreL (xr0 f c a (xall f c ni)) (g 26) (i + 1))) by rw [gup_gg]; exact congrArg (fun z => xM h n _ (gup g 26 z)) xpreL_s) ?_
              refine a_iload (i := 5) C dX7_split_96 rfl ?_
              refine a_aload_n (i := 0) C dX7_split_98 rfl rfl ?_
              refine a_get C dX7_split_99 fl_X7_69 xM_0 rfl ?_
              refine a_iload (i := 6) C dX7_split_102 rfl ?_
              refine a_ialdV C (xs0 f c a (xall f c ni) i) dX7_split_104 xM_25 ⟨by omega, by omega⟩ (xpre_lt (Nat.lt_succ_self i)) ?_
              refine a_isub C dX7_split_105 ?_
              refine a_istore (i := 5) C dX7_split_106 (by decide) ?_
              refine a_iinc (i := 6) (v := nI (i + 1)) C dX7_split_108 rfl (nI_1 i) (by decide) ?_
              refine a_goto (tgt := 12) C dX7_split_111 (by decide) ?_
              refine a_loc _ ?_ (ih (i + 1) (by omega) (by omega))
              exact xsub_cons rfl (xsub_cons rfl (xsub_cons rfl (xsub_cons rfl (xsub_cons rfl (xsub_cons rfl (xsub_nil))))))
  refine a_aload_n (i := 0) C dX7_split_0 rfl rfl ?_
  refine a_iload_n (i := 1) C dX7_split_1 rfl rfl ?_
  refine a_callV C dX7_split_2 cv_X7_clearOf tb1117 (m_X7_clearOf hflags hI) rfl rfl xM_0 rfl (Nat.le_of_ble_eq_true rfl) ⟨Nat.le_of_ble_eq_true rfl, Nat.le_of_ble_eq_true rfl⟩ ⟨Nat.le_of_ble_eq_true rfl, Nat.le_of_ble_eq_true rfl⟩ (fun _ h => h.elim) xav_no (fun _ _ h => h.elim) (fun r2 hp2 hq2 => ?_)
  obtain ⟨rfl, rfl⟩ := hq2
  refine a_lstore_n (i := 3) C dX7_split_5 rfl (by decide) ?_
  refine a_iload_n (i := 2) C dX7_split_6 rfl rfl ?_
  refine a_istore (i := 5) C dX7_split_7 (by decide) ?_
  refine a_iconst (v := 0) C dX7_split_9 (by decide) ?_
  refine a_istore (i := 6) C dX7_split_10 (by decide) ?_
  refine a_hp (show _ = xM h n (fup f 25 (xpre (xs0 f c a (xall f c ni)) (f 25) 0)) (gup g 26 (xpreL (xr0 f c a (xall f c ni)) (g 26) 0)) by rw [xpre_0, xpreL_0, fup_id, gup_id]) ?_
  refine a_loc _ ?_ (loop (ni + 1) 0 (Nat.zero_le _) (by omega))
  exact xsub_cons rfl (xsub_cons rfl (xsub_cons rfl (xsub_cons rfl (xsub_cons rfl (xsub_cons rfl (xsub_nil))))))
