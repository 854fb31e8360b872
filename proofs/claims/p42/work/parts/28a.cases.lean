/-! the law's cases -/
theorem pP_okT {h : xH} {n n' : Nat → Int32} {f f' : Nat → Nat → Int32} {g g' : Nat → Nat → Int64} {nc ni np nl nc' ni' np' nl' : Nat} {v : Int32} {E : Int32 → Int64} {r : Option Value} {h' : xH} (H : pP h n f g nc ni np nl nc' ni' np' nl' (v, n', f', g') E r h') (h0 : n' 0 = 0) : r = some (.long v.toInt64) ∧ ∃ jc jr, h' = xC h nc' ni' np' nl' (n' 1) f' g' jc jr := pP_ok H h0
theorem xw_Os {O G P M R : Nat → Int32} {nc ni np nl i : Nat} {t : Int32} {f : Nat → Nat → Int32} {g : Nat → Nat → Int64} {jc : Nat → Nat → Int32} {jr : Nat → Int64} : xup (xC (xLw O G P M R) nc ni np nl t f g jc jr) 230 (.inl (0, 24, .inl (upd O i (O i)))) = xC (xLw O G P M R) nc ni np nl t f g jc jr := by
  rw [xud_self]
  exact xw_O
section KCS
variable {n : Nat → Int32} {f : Nat → Nat → Int32} {g : Nat → Nat → Int64} {nc ni np nl c d t : Nat} {a b : Int32}
theorem E_inv24 (hc : c < nc) (hn : nc ≤ 6) (ha : 1 ≤ a.toInt ∧ a.toInt ≤ 10000) (hd : 0 ≤ b.toInt ∧ b.toInt ≤ 120) (h24 : ni = 24) : (o_postInvoice nc ni nl (nI c) a b n f g).2.1 0 = 3 := by
  have hxc : xin (nI c) nc := xin_of hc (by omega)
  have k0 : (1 : Int32).toInt = 1 := rfl
  have kA : (10000000 : Int32).toInt = 10000000 := rfl
  have kD : (120 : Int32).toInt = 120 := rfl
  have hA : xokA a ∧ xokD b := ⟨⟨i32_le.mpr (by omega), i32_le.mpr (by omega)⟩, i32_le.mpr (by rw [i32_z]; omega), i32_le.mpr (by omega)⟩
  unfold o_postInvoice
  rw [if_neg (fun z => z hxc), if_neg (fun z => z hA), if_pos h24]
  rfl
theorem E_pass2 (ht : n 1 = nI t) (ht2 : t ≤ 1460) (hd : 1 ≤ d ∧ d ≤ 400) (hl : ¬ t + d ≤ 1460) : (o_passDays ni (nI d) n f g).2.1 0 = 2 := by
  have c1 : 1 ≤ nI d ∧ nI d ≤ 400 := ⟨(xle (a := 1) (b := d) (by omega) (by omega)).mpr hd.1, (xle (a := d) (b := 400) (by omega) (by omega)).mpr hd.2⟩
  have c2 : ¬ n 1 + nI d ≤ 1460 := by
    rw [ht, nI_add]
    exact fun z => hl ((xle (a := t + d) (b := 1460) (by omega) (by omega)).mp z)
  unfold o_passDays
  rw [if_neg (fun z => z c1), if_pos c2]
  rfl
theorem E_dis3 (hc : c < nc) (hn : nc ≤ 6) (ha : 1 ≤ a.toInt) (hx : xall f (nI c) ni < a.toInt64) : (o_disputeAll nc ni (nI c) a n f g).2.1 0 = 3 := by
  have hxc : xin (nI c) nc := xin_of hc (by omega)
  have k0 : (1 : Int32).toInt = 1 := rfl
  unfold o_disputeAll
  rw [if_neg (fun z => z hxc), if_neg (fun z => by have := i32_lt.mp z; omega), if_pos hx]
  rfl
theorem E_rev2 {p : Nat} (hp : p < np) (hn : np ≤ 24) (h : ¬ f 21 p = 0) : (o_reverse ni np nl (nI p) n f g).2.1 0 = 2 := by
  have hx : xin (nI p) np := xin_of hp (by omega)
  unfold o_reverse
  rw [if_neg (fun z => z hx), nI_clamp (by omega), if_pos h]
  rfl
theorem E_all3 {p i : Nat} (hp : p < np) (hi : i < ni) (hn : np ≤ 24) (hn2 : ni ≤ 24) (h : ¬ (f 10 i = f 19 p ∧ 0 < (f 20 p).toInt ∧ 0 < (f 13 i).toInt)) : (o_allocate ni np nl (nI p) (nI i) 1 n f g).2.1 0 = 3 := by
  have hx : xin (nI p) np ∧ xin (nI i) ni := ⟨xin_of hp (by omega), xin_of hi (by omega)⟩
  have k1 : (1 : Int32).toInt = 1 := rfl
  unfold o_allocate
  rw [if_neg (fun z => z hx), if_neg (by decide), nI_clamp (by omega), nI_clamp (by omega), if_pos (Classical.byContradiction fun z => h ⟨Classical.not_not.mp fun y => z (Or.inl y), Int.not_le.mp fun y => z (Or.inr (Or.inl (i32_lt.mpr (by omega)))), Int.not_le.mp fun y => z (Or.inr (Or.inr (i32_lt.mpr (by omega))))⟩)]
  rfl
theorem E_set2 {i : Nat} (hi : i < ni) (hn2 : ni ≤ 24) (h : f 14 i = 0) : (o_settle ni nl (nI i) a n f g).2.1 0 = 2 := by
  have hx : xin (nI i) ni := xin_of hi (by omega)
  unfold o_settle
  rw [if_neg (fun z => z hx), nI_clamp (by omega), if_pos h]
  rfl
theorem add64 {a b : Nat} (h : a + b < 2 ^ 31) : (nI a).toInt64 + (nI b).toInt64 = (nI (a + b)).toInt64 := i64_inj (by
  have h1 := nI64 (k := a) (by omega)
  have h2 := nI64 (k := b) (by omega)
  rw [i64_add (by omega) (by omega), h1, h2, nI64 h]
  omega)
theorem one64 {a : Nat} (h : 1 + a < 2 ^ 31) : 1 + (nI a).toInt64 = (nI (1 + a)).toInt64 := add64 (a := 1) h
end KCS
set_option maxRecDepth 100000 in
set_option maxHeartbeats 4000000 in
theorem lc_invoice {E : xEnv} {l : Launch} {N0 : Nat} {D : va_G} {dT : Nat → ClassId} {ret : Option FieldType} {tab : List ExceptionTableEntry} (hflags : l.stackTraces = false) (C : aC E l N0 D dT cL_law "ReceivablesBookLaw" 22 ret tab room_1 nwLaw) (hN : xNcE E) {n : Nat → Int32} {f : Nat → Nat → Int32} {g : Nat → Nat → Int64} {ni np nl q9 q y c ii kk : Nat} {O G P M R : Nat → Int32} (hS : LSt n f g 2 ni np nl q9 O G P M R) (hq : q9 ≤ 135) (hy : y < 134217728) (hc : c < 2)  {KB SB : Nat} (hKB : KB ≤ 600130) (hSB : SB ≤ 7301080) (next : ∀ (n : Nat → Int32) (f : Nat → Nat → Int32) (g : Nat → Nat → Int64) (ni np nl q1 : Nat) (O G P M R : Nat → Int32) (jc : Nat → Nat → Int32) (jr : Nat → Int64) (k s9 : Nat), LSt n f g 2 ni np nl q1 O G P M R → q1 ≤ q9 + 2 → k ≤ KB → s9 ≤ SB → aW E k s9 (xC (xLw O G P M R) 2 ni np nl (n 1) f g jc jr) 1211 [(0, .ref 908), (1, .ref 0), (2, .ref 230), (3, .ref 231), (4, .ref 232), (5, .ref 233), (6, .ref 234), (7, .int 1), (8, .int (nI q))] []) {jc : Nat → Nat → Int32} {jr : Nat → Int64} {k s9 : Nat} (hk : k + 400 ≤ KB) (hs : s9 + 40000 ≤ SB) : aW E k s9 (xC (xLw O G P M R) 2 ni np nl (n 1) f g jc jr) 185 [(0, .ref 908), (1, .ref 0), (2, .ref 230), (3, .ref 231), (4, .ref 232), (5, .ref 233), (6, .ref 234), (8, .int (nI q)), (11, .int (nI y)), (12, .int (nI c)), (13, .int (nI ni)), (14, .int (nI ii)), (15, .int (nI kk))] [] := by
  have hJ := hS.1
  obtain ⟨hI, ⟨t9, ht, ht2, hG⟩, hLl⟩ := id hJ
  obtain ⟨-, -, -, -, -, hi24, hp24, hl16⟩ := id hI
  have hk1 := hS.2.1.2.1
  have hk2 := hS.2.1.2.2.1
  by_cases h24 : ni = 24
  · have e24 : (o_postInvoice 2 ni nl (nI c) (nI (1 + y % 9973)) (nI (y / 3 % 40)) n f g).2.1 0 = 3 := E_inv24 hc (by omega) ⟨by rw [nI_toInt (by omega)]; omega, by rw [nI_toInt (by omega)]; omega⟩ ⟨by rw [nI_toInt (by omega)]; omega, by rw [nI_toInt (by omega)]; omega⟩ h24
    refine a_aload_n (i := 2) C dL_law_185 rfl rfl ?_
    refine a_iload (i := 13) C dL_law_186 rfl ?_
    refine a_bipush (v := 24) C dL_law_188 (by decide) ?_
    refine a_icmp_ge (tgt := 198) C dL_law_190 (by decide) (fun c190 => ?_) (fun c190 => ?_)
    · refine a_bipush (v := 23) C dL_law_198 (by decide) ?_
      refine a_top (nI 23) rfl ?_
      refine a_iload (i := 13) C dL_law_200 rfl ?_
      refine a_bipush (v := 24) C dL_law_202 (by decide) ?_
      refine a_icmp_ge (tgt := 212) C dL_law_204 (by decide) (fun c204 => ?_) (fun c204 => ?_)
      · refine a_aload_n (i := 2) C dL_law_212 rfl rfl ?_
        refine a_bipush (v := 23) C dL_law_213 (by decide) ?_
        refine a_top (nI 23) rfl ?_
        refine a_ialdI C dL_law_215 (xC_L rfl (by decide)) ⟨by omega, by omega⟩ ?_
        refine a_iastI C dL_law_216 (xC_L rfl (by decide)) ⟨by omega, by omega⟩ ?_
        refine a_hp xw_Os ?_
        refine a_aload_n (i := 1) C dL_law_217 rfl rfl ?_
        refine a_iload (i := 12) C dL_law_218 rfl ?_
        refine a_iconst (v := 1) C dL_law_220 (by decide) ?_
        refine a_iload (i := 11) C dL_law_221 rfl ?_
        refine a_sipush (v := 9973) C dL_law_223 (by decide) ?_
        refine a_irem C dL_law_226 (by decide) ?_
        refine a_top (nI (y % 9973)) (iremN (b := 9973) (by omega) (by omega)) ?_
        refine a_iadd C dL_law_227 ?_
        refine a_top (nI (1 + y % 9973)) (nI_add 1 _) ?_
        refine a_iload (i := 11) C dL_law_228 rfl ?_
        refine a_iconst (v := 3) C dL_law_230 (by decide) ?_
        refine a_idiv C dL_law_231 (by decide) ?_
        refine a_top (nI (y / 3)) (idivN (b := 3) (by omega) (by omega)) ?_
        refine a_bipush (v := 40) C dL_law_232 (by decide) ?_
        refine a_irem C dL_law_234 (by decide) ?_
        refine a_top (nI (y / 3 % 40)) (iremN (b := 40) (by omega) (by omega)) ?_
        refine a_callSN (na := 4) C hN dL_law_235 ⟨tb448, tb23, tb449, ⟨by decide, by decide, by decide +kernel⟩⟩ tb447 (v_invoice hflags xBs_w hS.1 (by omega) (by rw [e24]; decide)) rfl rfl (Nat.le_of_ble_eq_true rfl) ⟨Nat.le_of_ble_eq_true rfl, Nat.le_of_ble_eq_true rfl⟩ ⟨show k + 4 ≤ 600130 by omega, show s9 + 24 ≤ 7301080 by omega⟩ (fun _ h => h.elim) xav_no (fun r235 hp235 hq235 => ?_)
        obtain ⟨rfl, jc235, jr235, rfl⟩ := pP_no (k := 3) (v := eN) hq235 e24 (by decide) rfl
        refine a_iload (i := 13) C dL_law_238 rfl ?_
        refine a_bipush (v := 24) C dL_law_240 (by decide) ?_
        refine a_icmp_ne (tgt := 251) C dL_law_242 (by decide) (fun c242 => ?_) (fun c242 => ?_)
        · exact absurd (by rw [h24]; rfl) c242
        · refine a_ldc2 C dL_law_245 tb340 ?_
          refine a_goto (tgt := 254) C dL_law_248 (by decide) ?_
          refine a_lcmp C dL_law_254 ?_
          refine a_if_ne (tgt := 262) C dL_law_255 (by decide) (fun c255 => ?_) (fun c255 => ?_)
          · exact absurd (lcmp_eq.mpr rfl) c255
          · refine a_iconst (v := 1) C dL_law_258 (by decide) ?_
            refine a_goto (tgt := 263) C dL_law_259 (by decide) ?_
            refine a_istore (i := 7) C dL_law_263 (by decide) ?_
            refine a_goto (tgt := 1211) C dL_law_265 (by decide) ?_
            refine a_loc [(0, .ref 908), (1, .ref 0), (2, .ref 230), (3, .ref 231), (4, .ref 232), (5, .ref 233), (6, .ref 234), (7, .int 1), (8, .int (nI q))] (xsub_cons rfl (xsub_cons rfl (xsub_cons rfl (xsub_cons rfl (xsub_cons rfl (xsub_cons rfl (xsub_cons rfl (xsub_cons rfl (xsub_cons rfl (xsub_nil)))))))))) ?_
            exact next _ _ _ _ _ _ _ _ _ _ _ _ _ _ _ _ hS (by omega) (by omega) (by omega)
      · exact absurd ((xle (a := 24) (b := ni) (by omega) (by omega)).mpr (by omega)) c204
    · exact absurd ((xle (a := 24) (b := ni) (by omega) (by omega)).mpr (by omega)) c190
  · obtain ⟨n1, f1, g1, e1, e2, s1⟩ := E_invoice (a := (nI (1 + y % 9973))) (d := (nI (y / 3 % 40))) hS (by omega) hc ⟨by rw [nI_toInt (by omega)]; omega, by rw [nI_toInt (by omega)]; omega⟩ ⟨by rw [nI_toInt (by omega)]; omega, by rw [nI_toInt (by omega)]; omega⟩ (by omega)
    have hl4 := lC_b4 (nl := nl) (JI_4 s1.1 (by omega))
    refine a_aload_n (i := 2) C dL_law_185 rfl rfl ?_
    refine a_iload (i := 13) C dL_law_186 rfl ?_
    refine a_bipush (v := 24) C dL_law_188 (by decide) ?_
    refine a_icmp_ge (tgt := 198) C dL_law_190 (by decide) (fun c190 => ?_) (fun c190 => ?_)
    · exact absurd ((xle (a := 24) (b := ni) (by omega) (by omega)).mp c190) (by omega)
    · refine a_iload (i := 13) C dL_law_193 rfl ?_
      refine a_goto (tgt := 200) C dL_law_195 (by decide) ?_
      refine a_iload (i := 13) C dL_law_200 rfl ?_
      refine a_bipush (v := 24) C dL_law_202 (by decide) ?_
      refine a_icmp_ge (tgt := 212) C dL_law_204 (by decide) (fun c204 => ?_) (fun c204 => ?_)
      · exact absurd ((xle (a := 24) (b := ni) (by omega) (by omega)).mp c204) (by omega)
      · refine a_iload (i := 12) C dL_law_207 rfl ?_
        refine a_goto (tgt := 216) C dL_law_209 (by decide) ?_
        refine a_iastI C dL_law_216 (xC_L rfl (by decide)) ⟨by omega, by omega⟩ ?_
        refine a_hp xw_O ?_
        refine a_aload_n (i := 1) C dL_law_217 rfl rfl ?_
        refine a_iload (i := 12) C dL_law_218 rfl ?_
        refine a_iconst (v := 1) C dL_law_220 (by decide) ?_
        refine a_iload (i := 11) C dL_law_221 rfl ?_
        refine a_sipush (v := 9973) C dL_law_223 (by decide) ?_
        refine a_irem C dL_law_226 (by decide) ?_
        refine a_top (nI (y % 9973)) (iremN (b := 9973) (by omega) (by omega)) ?_
        refine a_iadd C dL_law_227 ?_
        refine a_top (nI (1 + y % 9973)) (nI_add 1 _) ?_
        refine a_iload (i := 11) C dL_law_228 rfl ?_
        refine a_iconst (v := 3) C dL_law_230 (by decide) ?_
        refine a_idiv C dL_law_231 (by decide) ?_
        refine a_top (nI (y / 3)) (idivN (b := 3) (by omega) (by omega)) ?_
        refine a_bipush (v := 40) C dL_law_232 (by decide) ?_
        refine a_irem C dL_law_234 (by decide) ?_
        refine a_top (nI (y / 3 % 40)) (iremN (b := 40) (by omega) (by omega)) ?_
        refine a_callSN (na := 4) C hN dL_law_235 ⟨tb448, tb23, tb449, ⟨by decide, by decide, by decide +kernel⟩⟩ tb447 (w_invoice hflags xBs_w hS.1 (by omega)) rfl rfl (Nat.le_of_ble_eq_true rfl) ⟨Nat.le_of_ble_eq_true rfl, Nat.le_of_ble_eq_true rfl⟩ ⟨show k + (6 + lCel nl _) ≤ 600130 by omega, show s9 + (67 + lSlt nl _) ≤ 7301080 by omega⟩ (fun j h => xnwB_lt h) ⟨fun q hq j hj => (by simp only [List.mem_cons, List.not_mem_nil, or_false] at hq; rcases hq with rfl | rfl | rfl | rfl | rfl | rfl | rfl | rfl | rfl | rfl | rfl | rfl | rfl <;> first | exact Value.noConfusion hj | exact xnwB_law (by decide) (Value.ref.inj hj)), fun v hv => nomatch hv⟩ (fun r235 hp235 hq235 => ?_)
        rw [e1] at hq235
        obtain ⟨rfl, jc235, jr235, rfl⟩ := pP_okT hq235 e2
        refine a_wd (k + 100) (s9 + 17000) (by show _ ≤ k + 100; omega) (by show _ ≤ s9 + 17000; omega) ?_
        refine a_iload (i := 13) C dL_law_238 rfl ?_
        refine a_bipush (v := 24) C dL_law_240 (by decide) ?_
        refine a_icmp_ne (tgt := 251) C dL_law_242 (by decide) (fun c242 => ?_) (fun c242 => ?_)
        · refine a_iload (i := 13) C dL_law_251 rfl ?_
          refine a_i2l C dL_law_253 ?_
          refine a_lcmp C dL_law_254 ?_
          refine a_if_ne (tgt := 262) C dL_law_255 (by decide) (fun c255 => ?_) (fun c255 => ?_)
          · exact absurd (lcmp_eq.mpr rfl) c255
          · refine a_iconst (v := 1) C dL_law_258 (by decide) ?_
            refine a_goto (tgt := 263) C dL_law_259 (by decide) ?_
            refine a_istore (i := 7) C dL_law_263 (by decide) ?_
            refine a_goto (tgt := 1211) C dL_law_265 (by decide) ?_
            refine a_loc [(0, .ref 908), (1, .ref 0), (2, .ref 230), (3, .ref 231), (4, .ref 232), (5, .ref 233), (6, .ref 234), (7, .int 1), (8, .int (nI q))] (xsub_cons rfl (xsub_cons rfl (xsub_cons rfl (xsub_cons rfl (xsub_cons rfl (xsub_cons rfl (xsub_cons rfl (xsub_cons rfl (xsub_cons rfl (xsub_nil)))))))))) ?_
            exact next _ _ _ _ _ _ _ _ _ _ _ _ _ _ _ _ s1 (by omega) (by omega) (by omega)
        · exact absurd ((nI_eq (by omega) (by omega)).mp (show nI ni = nI 24 from c242)) h24
set_option maxRecDepth 100000 in
set_option maxHeartbeats 4000000 in
theorem lc_pays {E : xEnv} {l : Launch} {N0 : Nat} {D : va_G} {dT : Nat → ClassId} {ret : Option FieldType} {tab : List ExceptionTableEntry} (hflags : l.stackTraces = false) (C : aC E l N0 D dT cL_law "ReceivablesBookLaw" 22 ret tab room_1 nwLaw) (hN : xNcE E) {n : Nat → Int32} {f : Nat → Nat → Int32} {g : Nat → Nat → Int64} {ni np nl q9 q y c ii kk : Nat} {O G P M R : Nat → Int32} (hS : LSt n f g 2 ni np nl q9 O G P M R) (hq : q9 ≤ 135) (hy : y < 134217728) (hc : c < 2)  {KB SB : Nat} (hKB : KB ≤ 600130) (hSB : SB ≤ 7301080) (next : ∀ (n : Nat → Int32) (f : Nat → Nat → Int32) (g : Nat → Nat → Int64) (ni np nl q1 : Nat) (O G P M R : Nat → Int32) (jc : Nat → Nat → Int32) (jr : Nat → Int64) (k s9 : Nat), LSt n f g 2 ni np nl q1 O G P M R → q1 ≤ q9 + 2 → k ≤ KB → s9 ≤ SB → aW E k s9 (xC (xLw O G P M R) 2 ni np nl (n 1) f g jc jr) 1211 [(0, .ref 908), (1, .ref 0), (2, .ref 230), (3, .ref 231), (4, .ref 232), (5, .ref 233), (6, .ref 234), (7, .int 1), (8, .int (nI q))] []) {jc : Nat → Nat → Int32} {jr : Nat → Int64} {k s9 : Nat} (hk : k + 400 ≤ KB) (hs : s9 + 40000 ≤ SB) : aW E k s9 (xC (xLw O G P M R) 2 ni np nl (n 1) f g jc jr) 275 [(0, .ref 908), (1, .ref 0), (2, .ref 230), (3, .ref 231), (4, .ref 232), (5, .ref 233), (6, .ref 234), (8, .int (nI q)), (11, .int (nI y)), (12, .int (nI c)), (13, .int (nI ni)), (14, .int (nI ii)), (15, .int (nI kk))] [] := by
  have hJ := hS.1
  obtain ⟨hI, ⟨t9, ht, ht2, hG⟩, hLl⟩ := id hJ
  obtain ⟨-, -, -, -, -, hi24, hp24, hl16⟩ := id hI
  have hk1 := hS.2.1.2.1
  have hk2 := hS.2.1.2.2.1
  refine a_aload_n (i := 1) C dL_law_275 rfl rfl ?_
  refine a_aload_n (i := 2) C dL_law_276 rfl rfl ?_
  refine a_aload (i := 4) C dL_law_277 rfl ?_
  refine a_aload (i := 5) C dL_law_279 rfl ?_
  refine a_iload (i := 12) C dL_law_281 rfl ?_
  refine a_aload (i := 6) C dL_law_283 rfl ?_
  refine a_iload (i := 12) C dL_law_285 rfl ?_
  refine a_ialdI C dL_law_287 (xC_L rfl (by decide)) ⟨by omega, by omega⟩ ?_
  refine a_iconst (v := 1) C dL_law_288 (by decide) ?_
  refine a_iload (i := 11) C dL_law_289 rfl ?_
  refine a_sipush (v := 7919) C dL_law_291 (by decide) ?_
  refine a_irem C dL_law_294 (by decide) ?_
  refine a_top (nI (y % 7919)) (iremN (b := 7919) (by omega) (by omega)) ?_
  refine a_iadd C dL_law_295 ?_
  refine a_top (nI (1 + y % 7919)) (nI_add 1 _) ?_
  refine a_callSP (na := 7) C hN dL_law_296 ⟨tb927, tb23, tb928, ⟨by decide, by decide, by decide +kernel⟩⟩ tb926 (p_pays hflags hS (by omega) hc (by omega)) rfl rfl (Nat.le_of_ble_eq_true rfl) ⟨Nat.le_of_ble_eq_true rfl, Nat.le_of_ble_eq_true rfl⟩ ⟨show k + 140 ≤ 600130 by omega, show s9 + 17300 ≤ 7301080 by omega⟩ (fun j h => xnwB_lt h) ⟨fun q hq j hj => (by simp only [List.mem_cons, List.not_mem_nil, or_false] at hq; rcases hq with rfl | rfl | rfl | rfl | rfl | rfl | rfl | rfl | rfl | rfl | rfl | rfl | rfl <;> first | exact Value.noConfusion hj | exact xnwB_law (by decide) (Value.ref.inj hj)), fun v hv => nomatch hv⟩ (fun r296 hp296 hq296 => ?_)
  obtain ⟨rfl, hpo⟩ := hq296
  rcases hpo with ⟨-, jc1, jr1, rfl⟩ | ⟨-, n1, f1, g1, nl1, jc1, jr1, rfl, s1⟩
  · refine a_istore (i := 7) C dL_law_299 (by decide) ?_
    refine a_goto (tgt := 1211) C dL_law_301 (by decide) ?_
    refine a_loc [(0, .ref 908), (1, .ref 0), (2, .ref 230), (3, .ref 231), (4, .ref 232), (5, .ref 233), (6, .ref 234), (7, .int 1), (8, .int (nI q))] (xsub_cons rfl (xsub_cons rfl (xsub_cons rfl (xsub_cons rfl (xsub_cons rfl (xsub_cons rfl (xsub_cons rfl (xsub_cons rfl (xsub_cons rfl (xsub_nil)))))))))) ?_
    first
    | exact next _ _ _ _ _ _ _ _ _ _ _ _ _ _ _ _ s1 (by omega) (by omega) (by omega)
    | exact next _ _ _ _ _ _ _ _ _ _ _ _ _ _ _ _ hS (by omega) (by omega) (by omega)
  · refine a_istore (i := 7) C dL_law_299 (by decide) ?_
    refine a_goto (tgt := 1211) C dL_law_301 (by decide) ?_
    refine a_loc [(0, .ref 908), (1, .ref 0), (2, .ref 230), (3, .ref 231), (4, .ref 232), (5, .ref 233), (6, .ref 234), (7, .int 1), (8, .int (nI q))] (xsub_cons rfl (xsub_cons rfl (xsub_cons rfl (xsub_cons rfl (xsub_cons rfl (xsub_cons rfl (xsub_cons rfl (xsub_cons rfl (xsub_cons rfl (xsub_nil)))))))))) ?_
    first
    | exact next _ _ _ _ _ _ _ _ _ _ _ _ _ _ _ _ s1 (by omega) (by omega) (by omega)
    | exact next _ _ _ _ _ _ _ _ _ _ _ _ _ _ _ _ hS (by omega) (by omega) (by omega)
set_option maxRecDepth 100000 in
set_option maxHeartbeats 4000000 in
theorem lc_pass {E : xEnv} {l : Launch} {N0 : Nat} {D : va_G} {dT : Nat → ClassId} {ret : Option FieldType} {tab : List ExceptionTableEntry} (hflags : l.stackTraces = false) (C : aC E l N0 D dT cL_law "ReceivablesBookLaw" 22 ret tab room_1 nwLaw) (hN : xNcE E) {n : Nat → Int32} {f : Nat → Nat → Int32} {g : Nat → Nat → Int64} {ni np nl q9 q y c ii kk : Nat} {O G P M R : Nat → Int32} (hS : LSt n f g 2 ni np nl q9 O G P M R) (hq : q9 ≤ 135) (hy : y < 134217728) (hc : c < 2)  {KB SB : Nat} (hKB : KB ≤ 600130) (hSB : SB ≤ 7301080) (next : ∀ (n : Nat → Int32) (f : Nat → Nat → Int32) (g : Nat → Nat → Int64) (ni np nl q1 : Nat) (O G P M R : Nat → Int32) (jc : Nat → Nat → Int32) (jr : Nat → Int64) (k s9 : Nat), LSt n f g 2 ni np nl q1 O G P M R → q1 ≤ q9 + 2 → k ≤ KB → s9 ≤ SB → aW E k s9 (xC (xLw O G P M R) 2 ni np nl (n 1) f g jc jr) 1211 [(0, .ref 908), (1, .ref 0), (2, .ref 230), (3, .ref 231), (4, .ref 232), (5, .ref 233), (6, .ref 234), (7, .int 1), (8, .int (nI q))] []) {jc : Nat → Nat → Int32} {jr : Nat → Int64} {k s9 : Nat} (hk : k + 400 ≤ KB) (hs : s9 + 40000 ≤ SB) : aW E k s9 (xC (xLw O G P M R) 2 ni np nl (n 1) f g jc jr) 311 [(0, .ref 908), (1, .ref 0), (2, .ref 230), (3, .ref 231), (4, .ref 232), (5, .ref 233), (6, .ref 234), (8, .int (nI q)), (11, .int (nI y)), (12, .int (nI c)), (13, .int (nI ni)), (14, .int (nI ii)), (15, .int (nI kk))] [] := by
  have hJ := hS.1
  obtain ⟨hI, ⟨t9, ht, ht2, hG⟩, hLl⟩ := id hJ
  obtain ⟨-, -, -, -, -, hi24, hp24, hl16⟩ := id hI
  have hk1 := hS.2.1.2.1
  have hk2 := hS.2.1.2.2.1
  by_cases hl : t9 + (1 + y % 45) ≤ 1460
  · obtain ⟨n1, f1, g1, e1, e2, -, s1⟩ := E_pass (d := 1 + y % 45) hS (by omega) ht (by omega) hl
    refine a_aload_n (i := 1) C dL_law_311 rfl rfl ?_
    refine a_callV C dL_law_312 cv_X6_today tb134 (k_today hflags) rfl rfl xC_0 rfl (Nat.le_of_ble_eq_true rfl) ⟨Nat.le_of_ble_eq_true rfl, Nat.le_of_ble_eq_true rfl⟩ ⟨show k + 0 ≤ 600130 by omega, show s9 + 0 ≤ 7301080 by omega⟩ (fun _ h => h.elim) xav_no (fun _ _ h => h.elim) (fun r312 hp312 hq312 => ?_)
    obtain ⟨rfl, rfl⟩ := hq312
    refine a_top (nI t9) ht ?_
    refine a_i2l C dL_law_315 ?_
    refine a_lstore (i := 16) C dL_law_316 (by decide) ?_
    refine a_lconst (v := 1) C dL_law_318 (by decide) ?_
    refine a_iload (i := 11) C dL_law_319 rfl ?_
    refine a_bipush (v := 45) C dL_law_321 (by decide) ?_
    refine a_irem C dL_law_323 (by decide) ?_
    refine a_top (nI (y % 45)) (iremN (b := 45) (by omega) (by omega)) ?_
    refine a_i2l C dL_law_324 ?_
    refine a_ladd C dL_law_325 ?_
    refine a_topl (nI (1 + y % 45)).toInt64 (one64 (by omega)) ?_
    refine a_lstore (i := 18) C dL_law_326 (by decide) ?_
    refine a_aload_n (i := 1) C dL_law_328 rfl rfl ?_
    refine a_lload (i := 18) C dL_law_329 rfl ?_
    refine a_l2i C dL_law_331 ?_
    refine a_top (nI (1 + y % 45)) (x6432 _) ?_
    refine a_callSN (na := 2) C hN dL_law_332 ⟨tb395, tb23, tb396, ⟨by decide, by decide, by decide +kernel⟩⟩ tb394 (w_pass hflags xBs_w hS.1 (by omega)) rfl rfl (Nat.le_of_ble_eq_true rfl) ⟨Nat.le_of_ble_eq_true rfl, Nat.le_of_ble_eq_true rfl⟩ ⟨show k + 2 ≤ 600130 by omega, show s9 + 12 ≤ 7301080 by omega⟩ (fun _ h => h.elim) xav_no (fun r332 hp332 hq332 => ?_)
    rw [e1] at hq332
    obtain ⟨rfl, jc332, jr332, rfl⟩ := pP_okT hq332 e2
    refine a_wd (k + 2) (s9 + 12) (by show _ ≤ k + 2; omega) (by show _ ≤ s9 + 12; omega) ?_
    refine a_lload (i := 16) C dL_law_335 rfl ?_
    refine a_lload (i := 18) C dL_law_337 rfl ?_
    refine a_ladd C dL_law_339 ?_
    refine a_topl (nI (t9 + (1 + y % 45))).toInt64 (add64 (by omega)) ?_
    refine a_ldc2 C dL_law_340 tb936 ?_
    refine a_lcmp C dL_law_343 ?_
    refine a_if_le (tgt := 353) C dL_law_344 (by decide) (fun c344 => ?_) (fun c344 => ?_)
    · refine a_lload (i := 16) C dL_law_353 rfl ?_
      refine a_lload (i := 18) C dL_law_355 rfl ?_
      refine a_ladd C dL_law_357 ?_
      refine a_topl (nI (t9 + (1 + y % 45))).toInt64 (add64 (by omega)) ?_
      refine a_lcmp C dL_law_358 ?_
      refine a_if_ne (tgt := 366) C dL_law_359 (by decide) (fun c359 => ?_) (fun c359 => ?_)
      · exact absurd (lcmp_eq.mpr rfl) c359
      · refine a_iconst (v := 1) C dL_law_362 (by decide) ?_
        refine a_goto (tgt := 367) C dL_law_363 (by decide) ?_
        refine a_istore (i := 7) C dL_law_367 (by decide) ?_
        refine a_goto (tgt := 1211) C dL_law_369 (by decide) ?_
        refine a_loc [(0, .ref 908), (1, .ref 0), (2, .ref 230), (3, .ref 231), (4, .ref 232), (5, .ref 233), (6, .ref 234), (7, .int 1), (8, .int (nI q))] (xsub_cons rfl (xsub_cons rfl (xsub_cons rfl (xsub_cons rfl (xsub_cons rfl (xsub_cons rfl (xsub_cons rfl (xsub_cons rfl (xsub_cons rfl (xsub_nil)))))))))) ?_
        exact next n1 _ _ _ _ _ _ _ _ _ _ _ _ _ _ _ s1 (by omega) (by omega) (by omega)
    · exact absurd (lcmp_le.mpr (by rw [i64_lt, nI64 (by omega), show (1460 : Int64).toInt = 1460 from rfl]; omega)) c344
  · have e24 : (o_passDays ni (nI (1 + y % 45)) n f g).2.1 0 = 2 := E_pass2 ht ht2 (by omega) hl
    refine a_aload_n (i := 1) C dL_law_311 rfl rfl ?_
    refine a_callV C dL_law_312 cv_X6_today tb134 (k_today hflags) rfl rfl xC_0 rfl (Nat.le_of_ble_eq_true rfl) ⟨Nat.le_of_ble_eq_true rfl, Nat.le_of_ble_eq_true rfl⟩ ⟨show k + 0 ≤ 600130 by omega, show s9 + 0 ≤ 7301080 by omega⟩ (fun _ h => h.elim) xav_no (fun _ _ h => h.elim) (fun r312 hp312 hq312 => ?_)
    obtain ⟨rfl, rfl⟩ := hq312
    refine a_top (nI t9) ht ?_
    refine a_i2l C dL_law_315 ?_
    refine a_lstore (i := 16) C dL_law_316 (by decide) ?_
    refine a_lconst (v := 1) C dL_law_318 (by decide) ?_
    refine a_iload (i := 11) C dL_law_319 rfl ?_
    refine a_bipush (v := 45) C dL_law_321 (by decide) ?_
    refine a_irem C dL_law_323 (by decide) ?_
    refine a_top (nI (y % 45)) (iremN (b := 45) (by omega) (by omega)) ?_
    refine a_i2l C dL_law_324 ?_
    refine a_ladd C dL_law_325 ?_
    refine a_topl (nI (1 + y % 45)).toInt64 (one64 (by omega)) ?_
    refine a_lstore (i := 18) C dL_law_326 (by decide) ?_
    refine a_aload_n (i := 1) C dL_law_328 rfl rfl ?_
    refine a_lload (i := 18) C dL_law_329 rfl ?_
    refine a_l2i C dL_law_331 ?_
    refine a_top (nI (1 + y % 45)) (x6432 _) ?_
    refine a_callSN (na := 2) C hN dL_law_332 ⟨tb395, tb23, tb396, ⟨by decide, by decide, by decide +kernel⟩⟩ tb394 (w_pass hflags xBs_w hS.1 (by omega)) rfl rfl (Nat.le_of_ble_eq_true rfl) ⟨Nat.le_of_ble_eq_true rfl, Nat.le_of_ble_eq_true rfl⟩ ⟨show k + 2 ≤ 600130 by omega, show s9 + 12 ≤ 7301080 by omega⟩ (fun _ h => h.elim) xav_no (fun r332 hp332 hq332 => ?_)
    obtain ⟨rfl, jc332, jr332, rfl⟩ := pP_no (k := 2) (v := eN) hq332 e24 (by decide) rfl
    refine a_lload (i := 16) C dL_law_335 rfl ?_
    refine a_lload (i := 18) C dL_law_337 rfl ?_
    refine a_ladd C dL_law_339 ?_
    refine a_topl (nI (t9 + (1 + y % 45))).toInt64 (add64 (by omega)) ?_
    refine a_ldc2 C dL_law_340 tb936 ?_
    refine a_lcmp C dL_law_343 ?_
    refine a_if_le (tgt := 353) C dL_law_344 (by decide) (fun c344 => ?_) (fun c344 => ?_)
    · exact absurd (lcmp_le.mp c344) (fun z => z (by rw [i64_lt, nI64 (by omega), show (1460 : Int64).toInt = 1460 from rfl]; omega))
    · refine a_ldc2 C dL_law_347 tb340 ?_
      refine a_goto (tgt := 358) C dL_law_350 (by decide) ?_
      refine a_lcmp C dL_law_358 ?_
      refine a_if_ne (tgt := 366) C dL_law_359 (by decide) (fun c359 => ?_) (fun c359 => ?_)
      · exact absurd (lcmp_eq.mpr rfl) c359
      · refine a_iconst (v := 1) C dL_law_362 (by decide) ?_
        refine a_goto (tgt := 367) C dL_law_363 (by decide) ?_
        refine a_istore (i := 7) C dL_law_367 (by decide) ?_
        refine a_goto (tgt := 1211) C dL_law_369 (by decide) ?_
        refine a_loc [(0, .ref 908), (1, .ref 0), (2, .ref 230), (3, .ref 231), (4, .ref 232), (5, .ref 233), (6, .ref 234), (7, .int 1), (8, .int (nI q))] (xsub_cons rfl (xsub_cons rfl (xsub_cons rfl (xsub_cons rfl (xsub_cons rfl (xsub_cons rfl (xsub_cons rfl (xsub_cons rfl (xsub_cons rfl (xsub_nil)))))))))) ?_
        exact next n _ _ _ _ _ _ _ _ _ _ _ _ _ _ _ hS (by omega) (by omega) (by omega)
set_option maxRecDepth 100000 in
set_option maxHeartbeats 4000000 in
theorem lc_disp {E : xEnv} {l : Launch} {N0 : Nat} {D : va_G} {dT : Nat → ClassId} {ret : Option FieldType} {tab : List ExceptionTableEntry} (hflags : l.stackTraces = false) (C : aC E l N0 D dT cL_law "ReceivablesBookLaw" 22 ret tab room_1 nwLaw) (hN : xNcE E) {n : Nat → Int32} {f : Nat → Nat → Int32} {g : Nat → Nat → Int64} {ni np nl q9 q y c ii kk : Nat} {O G P M R : Nat → Int32} (hS : LSt n f g 2 ni np nl q9 O G P M R) (hq : q9 ≤ 135) (hy : y < 134217728) (hc : c < 2)  {KB SB : Nat} (hKB : KB ≤ 600130) (hSB : SB ≤ 7301080) (next : ∀ (n : Nat → Int32) (f : Nat → Nat → Int32) (g : Nat → Nat → Int64) (ni np nl q1 : Nat) (O G P M R : Nat → Int32) (jc : Nat → Nat → Int32) (jr : Nat → Int64) (k s9 : Nat), LSt n f g 2 ni np nl q1 O G P M R → q1 ≤ q9 + 2 → k ≤ KB → s9 ≤ SB → aW E k s9 (xC (xLw O G P M R) 2 ni np nl (n 1) f g jc jr) 1211 [(0, .ref 908), (1, .ref 0), (2, .ref 230), (3, .ref 231), (4, .ref 232), (5, .ref 233), (6, .ref 234), (7, .int 1), (8, .int (nI q))] []) {jc : Nat → Nat → Int32} {jr : Nat → Int64} {k s9 : Nat} (hk : k + 400 ≤ KB) (hs : s9 + 40000 ≤ SB) : aW E k s9 (xC (xLw O G P M R) 2 ni np nl (n 1) f g jc jr) 379 [(0, .ref 908), (1, .ref 0), (2, .ref 230), (3, .ref 231), (4, .ref 232), (5, .ref 233), (6, .ref 234), (8, .int (nI q)), (11, .int (nI y)), (12, .int (nI c)), (13, .int (nI ni)), (14, .int (nI ii)), (15, .int (nI kk))] [] := by
  have hJ := hS.1
  obtain ⟨hI, ⟨t9, ht, ht2, hG⟩, hLl⟩ := id hJ
  obtain ⟨-, -, -, -, -, hi24, hp24, hl16⟩ := id hI
  have hk1 := hS.2.1.2.1
  have hk2 := hS.2.1.2.2.1
  have hT := yclr_z (c := nI c) hG hk1 hi24
  obtain ⟨X, hXe⟩ : ∃ X, xsumL (yclr f O (nI c)) ni = X := ⟨_, rfl⟩
  have hXT : X.toInt = zs (zw ni f (nI c)) ni := by rw [← hXe]; exact hT.2
  have eA : (nI (1 + y % 3000)).toInt64.toInt = ((1 + y % 3000 : Nat) : Int) := nI64 (by omega)
  have eA0 : (nI (1 + y % 3000)).toInt = ((1 + y % 3000 : Nat) : Int) := nI_toInt (by omega)
  have hT1 := (xall_z (f := f) (c := nI c) hi24)
  have hT0 := zs_nn (t := zw ni f (nI c)) ni (fun i _ => JG_W hG (nI c) i)
  by_cases hl : zs (zw ni f (nI c)) ni < ((1 + y % 3000 : Nat) : Int)
  · have e24 : (o_disputeAll 2 ni (nI c) (nI (1 + y % 3000)) n f g).2.1 0 = 3 := E_dis3 hc (by omega) (by omega) (by rw [i64_lt, hT1.1, eA]; exact hl)
    refine a_aload_n (i := 1) C dL_law_379 rfl rfl ?_
    refine a_aload_n (i := 2) C dL_law_380 rfl rfl ?_
    refine a_iload (i := 12) C dL_law_381 rfl ?_
    refine a_callSP (na := 3) C hN dL_law_383 ⟨tb921, tb23, tb922, ⟨by decide, by decide, by decide +kernel⟩⟩ tb920 (p_clear hflags xBs_w hS.1 (by omega) rfl) rfl rfl (Nat.le_of_ble_eq_true rfl) ⟨Nat.le_of_ble_eq_true rfl, Nat.le_of_ble_eq_true rfl⟩ ⟨show k + 48 ≤ 600130 by omega, show s9 + 288 ≤ 7301080 by omega⟩ (fun _ h => h.elim) xav_no (fun r383 hp383 hq383 => ?_)
    obtain ⟨rfl, jc383, jr383, rfl⟩ := hq383
    
    rw [hXe]
    refine a_lstore (i := 16) C dL_law_386 (by decide) ?_
    refine a_iconst (v := 1) C dL_law_388 (by decide) ?_
    refine a_iload (i := 11) C dL_law_389 rfl ?_
    refine a_sipush (v := 3000) C dL_law_391 (by decide) ?_
    refine a_irem C dL_law_394 (by decide) ?_
    refine a_top (nI (y % 3000)) (iremN (b := 3000) (by omega) (by omega)) ?_
    refine a_iadd C dL_law_395 ?_
    refine a_top (nI (1 + y % 3000)) (nI_add 1 _) ?_
    refine a_istore (i := 18) C dL_law_396 (by decide) ?_
    refine a_aload_n (i := 1) C dL_law_398 rfl rfl ?_
    refine a_iload (i := 12) C dL_law_399 rfl ?_
    refine a_iload (i := 18) C dL_law_401 rfl ?_
    refine a_callSN (na := 3) C hN dL_law_403 ⟨tb663, tb23, tb664, ⟨by decide, by decide, by decide +kernel⟩⟩ tb662 (w_disputeAll hflags xBs_w hS.1 (by omega)) rfl rfl (Nat.le_of_ble_eq_true rfl) ⟨Nat.le_of_ble_eq_true rfl, Nat.le_of_ble_eq_true rfl⟩ ⟨show k + 48 + 3 ≤ 600130 by omega, show s9 + 288 + 18 ≤ 7301080 by omega⟩ (fun _ h => h.elim) xav_no (fun r403 hp403 hq403 => ?_)
    obtain ⟨rfl, jc403, jr403, rfl⟩ := pP_no (k := 3) (v := eN) hq403 e24 (by decide) rfl
    refine a_lstore (i := 19) C dL_law_406 (by decide) ?_
    refine a_iload (i := 18) C dL_law_408 rfl ?_
    refine a_i2l C dL_law_410 ?_
    refine a_lload (i := 16) C dL_law_411 rfl ?_
    refine a_lcmp C dL_law_413 ?_
    refine a_if_le (tgt := 447) C dL_law_414 (by decide) (fun c414 => ?_) (fun c414 => ?_)
    · exact absurd (lcmp_le.mp c414) (fun z => z (by rw [i64_lt, eA, hXT]; omega))
    · refine a_lload (i := 19) C dL_law_417 rfl ?_
      refine a_ldc2 C dL_law_419 tb340 ?_
      refine a_lcmp C dL_law_422 ?_
      refine a_if_ne (tgt := 443) C dL_law_423 (by decide) (fun c423 => ?_) (fun c423 => ?_)
      · exact absurd (lcmp_eq.mpr rfl) c423
      · refine a_aload_n (i := 1) C dL_law_426 rfl rfl ?_
        refine a_aload_n (i := 2) C dL_law_427 rfl rfl ?_
        refine a_iload (i := 12) C dL_law_428 rfl ?_
        refine a_callSP (na := 3) C hN dL_law_430 ⟨tb921, tb23, tb922, ⟨by decide, by decide, by decide +kernel⟩⟩ tb920 (p_clear hflags xBs_w hS.1 (by omega) rfl) rfl rfl (Nat.le_of_ble_eq_true rfl) ⟨Nat.le_of_ble_eq_true rfl, Nat.le_of_ble_eq_true rfl⟩ ⟨show k + 48 + 3 + 48 ≤ 600130 by omega, show s9 + 288 + 18 + 288 ≤ 7301080 by omega⟩ (fun _ h => h.elim) xav_no (fun r430 hp430 hq430 => ?_)
        obtain ⟨rfl, jc430, jr430, rfl⟩ := hq430
        refine a_lload (i := 16) C dL_law_433 rfl ?_
        refine a_lcmp C dL_law_435 ?_
        refine a_if_ne (tgt := 443) C dL_law_436 (by decide) (fun c436 => ?_) (fun c436 => ?_)
        · exact absurd (lcmp_eq.mpr hXe) c436
        · refine a_iconst (v := 1) C dL_law_439 (by decide) ?_
          refine a_goto (tgt := 485) C dL_law_440 (by decide) ?_
          refine a_istore (i := 7) C dL_law_485 (by decide) ?_
          refine a_goto (tgt := 1211) C dL_law_487 (by decide) ?_
          refine a_loc [(0, .ref 908), (1, .ref 0), (2, .ref 230), (3, .ref 231), (4, .ref 232), (5, .ref 233), (6, .ref 234), (7, .int 1), (8, .int (nI q))] (xsub_cons rfl (xsub_cons rfl (xsub_cons rfl (xsub_cons rfl (xsub_cons rfl (xsub_cons rfl (xsub_cons rfl (xsub_cons rfl (xsub_cons rfl (xsub_nil)))))))))) ?_
          exact next n _ _ _ _ _ _ _ _ _ _ _ _ _ _ _ hS (by omega) (by omega) (by omega)
  · obtain ⟨v, n1, f1, g1, e1, e2, s1, v1, v2, -, v3⟩ := E_disputeAll (a := nI (1 + y % 3000)) hS (by omega) hc (by omega) (by omega)
    obtain ⟨-, ⟨t8, -, -, hG1⟩, -⟩ := id s1.1
    have hX1 : xsumL (yclr f1 O (nI c)) ni = X - (nI (1 + y % 3000)).toInt64 := i64_inj (by
      rw [(yclr_z (c := nI c) hG1 s1.2.1.2.1 hi24).2, v3, i64_sub (by rw [hXT, eA]; omega) (by rw [hXT, eA]; omega), hXT, eA, eA0])
    refine a_aload_n (i := 1) C dL_law_379 rfl rfl ?_
    refine a_aload_n (i := 2) C dL_law_380 rfl rfl ?_
    refine a_iload (i := 12) C dL_law_381 rfl ?_
    refine a_callSP (na := 3) C hN dL_law_383 ⟨tb921, tb23, tb922, ⟨by decide, by decide, by decide +kernel⟩⟩ tb920 (p_clear hflags xBs_w hS.1 (by omega) rfl) rfl rfl (Nat.le_of_ble_eq_true rfl) ⟨Nat.le_of_ble_eq_true rfl, Nat.le_of_ble_eq_true rfl⟩ ⟨show k + 48 ≤ 600130 by omega, show s9 + 288 ≤ 7301080 by omega⟩ (fun _ h => h.elim) xav_no (fun r383 hp383 hq383 => ?_)
    obtain ⟨rfl, jc383, jr383, rfl⟩ := hq383
    
    rw [hXe]
    refine a_lstore (i := 16) C dL_law_386 (by decide) ?_
    refine a_iconst (v := 1) C dL_law_388 (by decide) ?_
    refine a_iload (i := 11) C dL_law_389 rfl ?_
    refine a_sipush (v := 3000) C dL_law_391 (by decide) ?_
    refine a_irem C dL_law_394 (by decide) ?_
    refine a_top (nI (y % 3000)) (iremN (b := 3000) (by omega) (by omega)) ?_
    refine a_iadd C dL_law_395 ?_
    refine a_top (nI (1 + y % 3000)) (nI_add 1 _) ?_
    refine a_istore (i := 18) C dL_law_396 (by decide) ?_
    refine a_aload_n (i := 1) C dL_law_398 rfl rfl ?_
    refine a_iload (i := 12) C dL_law_399 rfl ?_
    refine a_iload (i := 18) C dL_law_401 rfl ?_
    refine a_callSN (na := 3) C hN dL_law_403 ⟨tb663, tb23, tb664, ⟨by decide, by decide, by decide +kernel⟩⟩ tb662 (w_disputeAll hflags xBs_w hS.1 (by omega)) rfl rfl (Nat.le_of_ble_eq_true rfl) ⟨Nat.le_of_ble_eq_true rfl, Nat.le_of_ble_eq_true rfl⟩ ⟨show k + 48 + 3 ≤ 600130 by omega, show s9 + 288 + 18 ≤ 7301080 by omega⟩ (fun _ h => h.elim) xav_no (fun r403 hp403 hq403 => ?_)
    rw [e1] at hq403
    obtain ⟨rfl, jc403, jr403, rfl⟩ := pP_okT hq403 e2
    refine a_wd (k + 51) (s9 + 306) (by show _ ≤ k + 51; omega) (by show _ ≤ s9 + 306; omega) ?_
    refine a_lstore (i := 19) C dL_law_406 (by decide) ?_
    refine a_iload (i := 18) C dL_law_408 rfl ?_
    refine a_i2l C dL_law_410 ?_
    refine a_lload (i := 16) C dL_law_411 rfl ?_
    refine a_lcmp C dL_law_413 ?_
    refine a_if_le (tgt := 447) C dL_law_414 (by decide) (fun c414 => ?_) (fun c414 => ?_)
    · refine a_lload (i := 19) C dL_law_447 rfl ?_
      refine a_lconst (v := 1) C dL_law_449 (by decide) ?_
      refine a_lcmp C dL_law_450 ?_
      refine a_if_lt (tgt := 484) C dL_law_451 (by decide) (fun c451 => ?_) (fun c451 => ?_)
      · exact absurd (lcmp_lt.mp c451) (by rw [i64_lt, Int32.toInt_toInt64, show (1 : Int64).toInt = 1 from rfl]; omega)
      · refine a_lload (i := 19) C dL_law_454 rfl ?_
        refine a_iload (i := 18) C dL_law_456 rfl ?_
        refine a_i2l C dL_law_458 ?_
        refine a_lcmp C dL_law_459 ?_
        refine a_if_gt (tgt := 484) C dL_law_460 (by decide) (fun c460 => ?_) (fun c460 => ?_)
        · exact absurd (lcmp_gt.mp c460) (by rw [i64_lt, Int32.toInt_toInt64, Int32.toInt_toInt64]; omega)
        · refine a_aload_n (i := 1) C dL_law_463 rfl rfl ?_
          refine a_aload_n (i := 2) C dL_law_464 rfl rfl ?_
          refine a_iload (i := 12) C dL_law_465 rfl ?_
          refine a_callSP (na := 3) C hN dL_law_467 ⟨tb921, tb23, tb922, ⟨by decide, by decide, by decide +kernel⟩⟩ tb920 (p_clear hflags xBs_w s1.1 (by omega) rfl) rfl rfl (Nat.le_of_ble_eq_true rfl) ⟨Nat.le_of_ble_eq_true rfl, Nat.le_of_ble_eq_true rfl⟩ ⟨show k + 51 + 48 ≤ 600130 by omega, show s9 + 306 + 288 ≤ 7301080 by omega⟩ (fun _ h => h.elim) xav_no (fun r467 hp467 hq467 => ?_)
          obtain ⟨rfl, jc467, jr467, rfl⟩ := hq467
          refine a_lload (i := 16) C dL_law_470 rfl ?_
          refine a_iload (i := 18) C dL_law_472 rfl ?_
          refine a_i2l C dL_law_474 ?_
          refine a_lsub C dL_law_475 ?_
          refine a_lcmp C dL_law_476 ?_
          refine a_if_ne (tgt := 484) C dL_law_477 (by decide) (fun c477 => ?_) (fun c477 => ?_)
          · exact absurd (lcmp_eq.mpr hX1) c477
          · refine a_iconst (v := 1) C dL_law_480 (by decide) ?_
            refine a_goto (tgt := 485) C dL_law_481 (by decide) ?_
            refine a_istore (i := 7) C dL_law_485 (by decide) ?_
            refine a_goto (tgt := 1211) C dL_law_487 (by decide) ?_
            refine a_loc [(0, .ref 908), (1, .ref 0), (2, .ref 230), (3, .ref 231), (4, .ref 232), (5, .ref 233), (6, .ref 234), (7, .int 1), (8, .int (nI q))] (xsub_cons rfl (xsub_cons rfl (xsub_cons rfl (xsub_cons rfl (xsub_cons rfl (xsub_cons rfl (xsub_cons rfl (xsub_cons rfl (xsub_cons rfl (xsub_nil)))))))))) ?_
            exact next n1 _ _ _ _ _ _ _ _ _ _ _ _ _ _ _ s1 (by omega) (by omega) (by omega)
    · exact absurd (lcmp_le.mpr (by rw [i64_lt, eA, hXT]; omega)) c414
set_option maxRecDepth 100000 in
set_option maxHeartbeats 4000000 in
theorem lc_rest {E : xEnv} {l : Launch} {N0 : Nat} {D : va_G} {dT : Nat → ClassId} {ret : Option FieldType} {tab : List ExceptionTableEntry} (hflags : l.stackTraces = false) (C : aC E l N0 D dT cL_law "ReceivablesBookLaw" 22 ret tab room_1 nwLaw) (hN : xNcE E) {n : Nat → Int32} {f : Nat → Nat → Int32} {g : Nat → Nat → Int64} {ni np nl q9 q y c ii kk : Nat} {O G P M R : Nat → Int32} (hS : LSt n f g 2 ni np nl q9 O G P M R) (hq : q9 ≤ 135) (hy : y < 134217728) (hc : c < 2)  {KB SB : Nat} (hKB : KB ≤ 600130) (hSB : SB ≤ 7301080) (next : ∀ (n : Nat → Int32) (f : Nat → Nat → Int32) (g : Nat → Nat → Int64) (ni np nl q1 : Nat) (O G P M R : Nat → Int32) (jc : Nat → Nat → Int32) (jr : Nat → Int64) (k s9 : Nat), LSt n f g 2 ni np nl q1 O G P M R → q1 ≤ q9 + 2 → k ≤ KB → s9 ≤ SB → aW E k s9 (xC (xLw O G P M R) 2 ni np nl (n 1) f g jc jr) 1211 [(0, .ref 908), (1, .ref 0), (2, .ref 230), (3, .ref 231), (4, .ref 232), (5, .ref 233), (6, .ref 234), (7, .int 1), (8, .int (nI q))] []) {jc : Nat → Nat → Int32} {jr : Nat → Int64} {k s9 : Nat} (hk : k + 400 ≤ KB) (hs : s9 + 40000 ≤ SB) : aW E k s9 (xC (xLw O G P M R) 2 ni np nl (n 1) f g jc jr) 497 [(0, .ref 908), (1, .ref 0), (2, .ref 230), (3, .ref 231), (4, .ref 232), (5, .ref 233), (6, .ref 234), (8, .int (nI q)), (11, .int (nI y)), (12, .int (nI c)), (13, .int (nI ni)), (14, .int (nI ii)), (15, .int (nI kk))] [] := by
  have hJ := hS.1
  obtain ⟨hI, ⟨t9, ht, ht2, hG⟩, hLl⟩ := id hJ
  obtain ⟨-, -, -, -, -, hi24, hp24, hl16⟩ := id hI
  have hk1 := hS.2.1.2.1
  have hk2 := hS.2.1.2.2.1
  obtain ⟨v, n1, f1, g1, e1, e2, s1, v1, z1, -⟩ := E_rest hS (by omega) hc
  obtain ⟨v2, n2, f2, g2, e3, e4, s2, -, -, z2⟩ := E_rest s1 (by omega) hc
  have hl4 := lC_b4 (nl := nl) (JI_4 s1.1 (by omega))
  have hl5 := lC_b4 (nl := (mRS ni nl (nI c).toNatClampNeg (nup n 0 0) f g np).2.1) (JI_4 s2.1 (by omega))
  refine a_aload_n (i := 1) C dL_law_497 rfl rfl ?_
  refine a_iload (i := 12) C dL_law_498 rfl ?_
  refine a_callSN (na := 2) C hN dL_law_500 ⟨tb566, tb23, tb567, ⟨by decide, by decide, by decide +kernel⟩⟩ tb565 (w_rest hflags xBs_w hS.1 (by omega)) rfl rfl (Nat.le_of_ble_eq_true rfl) ⟨Nat.le_of_ble_eq_true rfl, Nat.le_of_ble_eq_true rfl⟩ ⟨show k + (1 + lCel nl _) ≤ 600130 by omega, show s9 + (6 + lSlt nl _) ≤ 7301080 by omega⟩ (fun j h => Nat.lt_of_le_of_lt h.2 (by decide)) ⟨fun q hq j hj => (by simp only [List.mem_cons, List.not_mem_nil, or_false] at hq; rcases hq with rfl | rfl | rfl | rfl | rfl | rfl | rfl | rfl | rfl | rfl | rfl | rfl | rfl <;> first | exact Value.noConfusion hj | exact xnwD_law (by decide) (Value.ref.inj hj)), fun v hv => nomatch hv⟩ (fun r500 hp500 hq500 => ?_)
  rw [e1] at hq500
  obtain ⟨rfl, jc500, jr500, rfl⟩ := pP_okT hq500 e2
  refine a_wd (k + 100) (s9 + 17000) (by show _ ≤ k + 100; omega) (by show _ ≤ s9 + 17000; omega) ?_
  refine a_lstore (i := 16) C dL_law_503 (by decide) ?_
  refine a_lload (i := 16) C dL_law_505 rfl ?_
  refine a_lconst (v := 0) C dL_law_507 (by decide) ?_
  refine a_lcmp C dL_law_508 ?_
  refine a_if_lt (tgt := 527) C dL_law_509 (by decide) (fun c509 => ?_) (fun c509 => ?_)
  · exact absurd (lcmp_lt.mp c509) (by rw [i64_lt, Int32.toInt_toInt64, i64_z]; omega)
  · refine a_loc [(0, .ref 908), (1, .ref 0), (2, .ref 230), (3, .ref 231), (4, .ref 232), (5, .ref 233), (6, .ref 234), (8, .int (nI q)), (11, .int (nI y)), (12, .int (nI c)), (13, .int (nI ni)), (14, .int (nI ii)), (15, .int (nI kk))] (xsub_cons rfl (xsub_cons rfl (xsub_cons rfl (xsub_cons rfl (xsub_cons rfl (xsub_cons rfl (xsub_cons rfl (xsub_cons rfl (xsub_cons rfl (xsub_cons rfl (xsub_cons rfl (xsub_cons rfl (xsub_cons rfl (xsub_nil)))))))))))))) ?_
    refine a_aload_n (i := 1) C dL_law_512 rfl rfl ?_
    refine a_iload (i := 12) C dL_law_513 rfl ?_
    refine a_callSN (na := 2) C hN dL_law_515 ⟨tb566, tb23, tb567, ⟨by decide, by decide, by decide +kernel⟩⟩ tb565 (w_rest hflags xBs_w s1.1 (by omega)) rfl rfl (Nat.le_of_ble_eq_true rfl) ⟨Nat.le_of_ble_eq_true rfl, Nat.le_of_ble_eq_true rfl⟩ ⟨show k + 100 + (1 + lCel _ _) ≤ 600130 by omega, show s9 + 17000 + (6 + lSlt _ _) ≤ 7301080 by omega⟩ (fun j h => Nat.lt_of_le_of_lt h.2 (by decide)) ⟨fun q hq j hj => (by simp only [List.mem_cons, List.not_mem_nil, or_false] at hq; rcases hq with rfl | rfl | rfl | rfl | rfl | rfl | rfl | rfl | rfl | rfl | rfl | rfl | rfl <;> first | exact Value.noConfusion hj | exact xnwD_law (by decide) (Value.ref.inj hj)), fun v hv => nomatch hv⟩ (fun r515 hp515 hq515 => ?_)
    rw [e3] at hq515
    obtain ⟨rfl, jc515, jr515, rfl⟩ := pP_okT hq515 e4
    refine a_wd (k + 200) (s9 + 34000) (by show _ ≤ k + 200; omega) (by show _ ≤ s9 + 34000; omega) ?_
    refine a_lconst (v := 0) C dL_law_518 (by decide) ?_
    refine a_lcmp C dL_law_519 ?_
    refine a_if_ne (tgt := 527) C dL_law_520 (by decide) (fun c520 => ?_) (fun c520 => ?_)
    · exact absurd (lcmp_eq.mpr (show v2.toInt64 = 0 by rw [z2 z1]; rfl)) c520
    · refine a_iconst (v := 1) C dL_law_523 (by decide) ?_
      refine a_goto (tgt := 528) C dL_law_524 (by decide) ?_
      refine a_istore (i := 7) C dL_law_528 (by decide) ?_
      refine a_goto (tgt := 1211) C dL_law_530 (by decide) ?_
      refine a_loc [(0, .ref 908), (1, .ref 0), (2, .ref 230), (3, .ref 231), (4, .ref 232), (5, .ref 233), (6, .ref 234), (7, .int 1), (8, .int (nI q))] (xsub_cons rfl (xsub_cons rfl (xsub_cons rfl (xsub_cons rfl (xsub_cons rfl (xsub_cons rfl (xsub_cons rfl (xsub_cons rfl (xsub_cons rfl (xsub_nil)))))))))) ?_
      exact next n2 _ _ _ _ _ _ _ _ _ _ _ _ _ _ _ s2 (by omega) (by omega) (by omega)
