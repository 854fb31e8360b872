/-! a payment by a rule -/
/-- the law's own rows -/
def xLw (O G P M R : Nat → Int32) : xH := fun j => bif Nat.beq j 230 then some (.inl (0, 24, .inl O)) else bif Nat.beq j 231 then some (.inl (0, 24, .inl G)) else bif Nat.beq j 232 then some (.inl (0, 24, .inl P)) else bif Nat.beq j 233 then some (.inl (0, 24, .inl M)) else bif Nat.beq j 234 then some (.inl (0, 6, .inl R)) else none
theorem xBs_w {O G P M R : Nat → Int32} : xBs (xLw O G P M R) := by
  intro j e he b hb
  unfold xLw at he
  revert he
  cases Nat.beq j 230 <;> cases Nat.beq j 231 <;> cases Nat.beq j 232 <;> cases Nat.beq j 233 <;> cases Nat.beq j 234 <;> intro he <;> first | (cases he; done) | (cases he; exact xnr_i)
theorem xLa_w {O G P M R : Nat → Int32} : xLa (xLw O G P M R) O G P M := ⟨rfl, rfl, rfl, rfl⟩
section KXW
variable {h : xH} {O G P M R : Nat → Int32} {nc ni np nl i : Nat} {t v : Int32} {f : Nat → Nat → Int32} {g : Nat → Nat → Int64} {jc : Nat → Nat → Int32} {jr : Nat → Int64} {w : Nat → Int32}
theorem xCw_up {j : Nat} {e : va_E} (hj : 128 ≤ j ∧ j ≤ 299) : xup (xC h nc ni np nl t f g jc jr) j e = xC (xup h j e) nc ni np nl t f g jc jr := by
  funext k
  by_cases hk : k = j
  · subst hk
    rw [xup_s, xC_ox (by omega) (by omega), xup_s]
  · rw [xup_n hk]
    have e1 : xup h j e k = h k := xup_n hk
    unfold xC
    rw [e1]
theorem xw_O : xup (xC (xLw O G P M R) nc ni np nl t f g jc jr) 230 (.inl (0, 24, .inl w)) = xC (xLw w G P M R) nc ni np nl t f g jc jr := by
  rw [xCw_up (by decide)]
  congr 1
  funext k
  by_cases hk : k = 230
  · subst hk; rw [xup_s]; rfl
  · rw [xup_n hk]
    unfold xLw
    rw [xb_f hk]
    rfl
theorem xw_G : xup (xC (xLw O G P M R) nc ni np nl t f g jc jr) 231 (.inl (0, 24, .inl w)) = xC (xLw O w P M R) nc ni np nl t f g jc jr := by
  rw [xCw_up (by decide)]
  congr 1
  funext k
  by_cases hk : k = 231
  · subst hk; rw [xup_s]; rfl
  · rw [xup_n hk]
    unfold xLw
    rw [xb_f hk]
    rfl
theorem xw_P : xup (xC (xLw O G P M R) nc ni np nl t f g jc jr) 232 (.inl (0, 24, .inl w)) = xC (xLw O G w M R) nc ni np nl t f g jc jr := by
  rw [xCw_up (by decide)]
  congr 1
  funext k
  by_cases hk : k = 232
  · subst hk; rw [xup_s]; rfl
  · rw [xup_n hk]
    unfold xLw
    rw [xb_f hk]
    rfl
theorem xw_M : xup (xC (xLw O G P M R) nc ni np nl t f g jc jr) 233 (.inl (0, 24, .inl w)) = xC (xLw O G P w R) nc ni np nl t f g jc jr := by
  rw [xCw_up (by decide)]
  congr 1
  funext k
  by_cases hk : k = 233
  · subst hk; rw [xup_s]; rfl
  · rw [xup_n hk]
    unfold xLw
    rw [xb_f hk]
    rfl
theorem xw_R : xup (xC (xLw O G P M R) nc ni np nl t f g jc jr) 234 (.inl (0, 6, .inl w)) = xC (xLw O G P M w) nc ni np nl t f g jc jr := by
  rw [xCw_up (by decide)]
  congr 1
  funext k
  by_cases hk : k = 234
  · subst hk; rw [xup_s]; rfl
  · rw [xup_n hk]
    unfold xLw
    rw [xb_f hk]
    rfl
end KXW
theorem lCap_4 {c : Nat} (h : c ≤ 4096) : lCap c ≤ 4096 := by
  unfold lCap
  simp only [bif_ble]
  repeat' split
  all_goals omega
theorem JI_4 {n : Nat → Int32} {f : Nat → Nat → Int32} {g : Nat → Nat → Int64} {nc ni np nl q : Nat} (h : JI n f g nc ni np nl q) (hq : q ≤ 140) : nl ≤ 4096 := by
  obtain ⟨h1, -, h7⟩ := h
  have := (zc_b f np).1
  unfold jL at h7
  have := h1.2.2.2.2.2.2.1
  omega
/-- new rows of lists and of the ledger cost no more -/
theorem lC_b4 {nl nl' : Nat} (h : nl' ≤ 4096) : lCel nl nl' ≤ 16 ∧ lSlt nl nl' ≤ 16384 := by
  have h1 := lGen_le nl'
  have h2 := lCap_4 h
  unfold lCel lSlt
  omega
theorem x6432 (v : Int32) : v.toInt64.toInt32 = v := i32_inj (by have := i32_rng v; rw [i64_32 (by rw [Int32.toInt_toInt64]; omega) (by rw [Int32.toInt_toInt64]; omega), Int32.toInt_toInt64])
theorem nI64 {k : Nat} (h : k < 2 ^ 31) : (nI k).toInt64.toInt = k := (Int32.toInt_toInt64 _).trans (nI_toInt (by omega))
set_option maxRecDepth 100000 in
set_option maxHeartbeats 4000000 in
theorem py_tailA {E : xEnv} {l : Launch} {N0 : Nat} {D : va_G} {dT : Nat → ClassId} (hflags : l.stackTraces = false) (C : aC E l N0 D dT cL_pays yL_pays.cls 17 (some FieldType.boolean) [] (xRm 12 140 17300) xnwB) (hN : xNcE E) {n : Nat → Int32} {f : Nat → Nat → Int32} {g : Nat → Nat → Int64} {nc ni np nl q9 c a : Nat} {O G P M R : Nat → Int32} {X L15 of9 : Int64} (hJ : JI n f g nc ni (np + 1) nl q9) (hK : kK nc ni (np + 1) nl f g O G P M R) (hq : q9 ≤ 500) (ha : a < 2 ^ 31) (hret : ∀ jc jr, aR E (some (.int 1)) (xC (xLw O G P M R) nc ni (np + 1) nl (n 1) f g jc jr)) (hL : L15 = (f 20 np).toInt64) (hX : X = 0 ↔ True) (hC : xsumL (yclr f O (nI c)) ni = X - ((nI a).toInt64 - L15)) {k s9 : Nat} {jc : Nat → Nat → Int32} {jr : Nat → Int64} (hk : k + 60 ≤ 140) (hs : s9 + 360 ≤ 17300) : aW E k s9 (xC (xLw O G P M R) nc ni (np + 1) nl (n 1) f g jc jr) 141 [(0, .ref 0), (1, .ref 230), (2, .ref 232), (3, .ref 233), (4, .int (nI c)), (5, .int (R c)), (6, .int (nI a)), (7, .int (nI np)), (8, .long X), (10, .int (-1)), (11, .long of9), (13, .long (nI np).toInt64), (15, .long L15)] [] := by
  have hnl := JI_nl hJ (by omega)
  obtain ⟨hI, ⟨t9, ht, ht2, hG⟩, hLl⟩ := id hJ
  obtain ⟨-, -, -, -, hc6, hi24, hp24, hl16⟩ := id hI
  have hk1 := hK.2.1
  refine a_lload (i := 13) C dL_pays_141 rfl ?_
  refine a_iload (i := 7) C dL_pays_143 rfl ?_
  refine a_i2l C dL_pays_145 ?_
  refine a_lcmp C dL_pays_146 ?_
  refine a_if_ne (tgt := 261) C dL_pays_147 (by decide) (fun c147 => ?_) (fun c147 => ?_)
  · exact absurd (lcmp_eq.mpr rfl) c147
  · refine a_aload_n (i := 0) C dL_pays_150 rfl rfl ?_
    refine a_callV C dL_pays_151 cv_X6_payments tb150 (k_payments hflags) rfl rfl xC_0 rfl (Nat.le_of_ble_eq_true rfl) ⟨Nat.le_of_ble_eq_true rfl, Nat.le_of_ble_eq_true rfl⟩ ⟨show k + 0 ≤ 140 by omega, show s9 + 0 ≤ 17300 by omega⟩ (fun _ h => h.elim) xav_no (fun _ _ h => h.elim) (fun r151 hp151 hq151 => ?_)
    obtain ⟨rfl, rfl⟩ := hq151
    refine a_iload (i := 7) C dL_pays_154 rfl ?_
    refine a_iconst (v := 1) C dL_pays_156 (by decide) ?_
    refine a_iadd C dL_pays_157 ?_
    refine a_top (nI (np + 1)) (nI_1 np) ?_
    refine a_icmp_ne (tgt := 261) C dL_pays_158 (by decide) (fun c158 => ?_) (fun c158 => ?_)
    · exact absurd rfl c158
    · refine a_iload (i := 10) C dL_pays_161 rfl ?_
      refine a_if_ge (tgt := 170) C dL_pays_163 (by decide) (fun z => absurd z (by decide)) (fun _ => ?_)
      refine a_iconst (v := 1) C dL_pays_166 (by decide) ?_
      refine a_goto (tgt := 171) C dL_pays_167 (by decide) ?_
      refine a_lload (i := 8) C dL_pays_171 rfl ?_
      refine a_lconst (v := 0) C dL_pays_173 (by decide) ?_
      refine a_lcmp C dL_pays_174 ?_
      refine a_if_ne (tgt := 182) C dL_pays_175 (by decide) (fun c175 => ?_) (fun c175 => ?_)
      · exact absurd (lcmp_eq.mpr (hX.mpr trivial)) c175
      · refine a_iconst (v := 1) C dL_pays_178 (by decide) ?_
        refine a_goto (tgt := 183) C dL_pays_179 (by decide) ?_
        refine a_icmp_ne (tgt := 261) C dL_pays_183 (by decide) (fun c183 => ?_) (fun c183 => ?_)
        · exact absurd rfl c183
        · refine a_aload_n (i := 0) C dL_pays_186 rfl rfl ?_
          refine a_iload (i := 7) C dL_pays_187 rfl ?_
          refine a_callSN (na := 2) C hN dL_pays_189 ⟨tb746, tb23, tb747, ⟨by decide, by decide, by decide +kernel⟩⟩ tb745 (w_unallocated hflags xBs_w hJ hq) rfl rfl (Nat.le_of_ble_eq_true rfl) ⟨Nat.le_of_ble_eq_true rfl, Nat.le_of_ble_eq_true rfl⟩ ⟨show k + 1 ≤ 140 by omega, show s9 + 6 ≤ 17300 by omega⟩ (fun _ h => h.elim) xav_no (fun r189 hp189 hq189 => ?_)
          obtain ⟨rfl, jc189, jr189, rfl⟩ := pP_rd (v' := f 20 np) hq189 (xin_of (Nat.lt_succ_self np) (by omega)) (by rw [nI_clamp (by omega)])
          refine a_lload (i := 15) C dL_pays_192 rfl ?_
          refine a_lcmp C dL_pays_194 ?_
          refine a_if_ne (tgt := 261) C dL_pays_195 (by decide) (fun c195 => ?_) (fun c195 => ?_)
          · exact absurd (lcmp_eq.mpr hL.symm) c195
          · refine a_aload_n (i := 0) C dL_pays_198 rfl rfl ?_
            refine a_aload_n (i := 1) C dL_pays_199 rfl rfl ?_
            refine a_iload (i := 4) C dL_pays_200 rfl ?_
            refine a_callSP (na := 3) C hN dL_pays_202 ⟨tb921, tb23, tb922, ⟨by decide, by decide, by decide +kernel⟩⟩ tb920 (p_clear hflags xBs_w hJ hq rfl) rfl rfl (Nat.le_of_ble_eq_true rfl) ⟨Nat.le_of_ble_eq_true rfl, Nat.le_of_ble_eq_true rfl⟩ ⟨show k + 1 + 48 ≤ 140 by omega, show s9 + 6 + 288 ≤ 17300 by omega⟩ (fun _ h => h.elim) xav_no (fun r202 hp202 hq202 => ?_)
            obtain ⟨rfl, jc202, jr202, rfl⟩ := hq202
            refine a_lload (i := 8) C dL_pays_205 rfl ?_
            refine a_iload (i := 6) C dL_pays_207 rfl ?_
            refine a_i2l C dL_pays_209 ?_
            refine a_lload (i := 15) C dL_pays_210 rfl ?_
            refine a_lsub C dL_pays_212 ?_
            refine a_lsub C dL_pays_213 ?_
            refine a_lcmp C dL_pays_214 ?_
            refine a_if_ne (tgt := 261) C dL_pays_215 (by decide) (fun c215 => ?_) (fun c215 => ?_)
            · exact absurd (lcmp_eq.mpr hC) c215
            · refine a_iload (i := 5) C dL_pays_218 rfl ?_
              refine a_if_ne (tgt := 257) C dL_pays_220 (by decide) (fun c220 => ?_) (fun c220 => ?_)
              · refine a_iconst (v := 1) C dL_pays_257 (by decide) ?_
                refine a_goto (tgt := 262) C dL_pays_258 (by decide) ?_
                exact a_zret C dL_pays_262 (by first | rfl | exact bI_nar) (by show _ ≤ 140; omega) (by show _ ≤ 17300; omega) (hret _ _)
              · refine a_iload (i := 10) C dL_pays_223 rfl ?_
                refine a_if_lt (tgt := 257) C dL_pays_225 (by decide) (fun _ => ?_) (fun z => absurd (by decide) z)
                refine a_iconst (v := 1) C dL_pays_257 (by decide) ?_
                refine a_goto (tgt := 262) C dL_pays_258 (by decide) ?_
                exact a_zret C dL_pays_262 (by first | rfl | exact bI_nar) (by show _ ≤ 140; omega) (by show _ ≤ 17300; omega) (hret _ _)
set_option maxRecDepth 100000 in
set_option maxHeartbeats 4000000 in
theorem py_tailB {E : xEnv} {l : Launch} {N0 : Nat} {D : va_G} {dT : Nat → ClassId} (hflags : l.stackTraces = false) (C : aC E l N0 D dT cL_pays yL_pays.cls 17 (some FieldType.boolean) [] (xRm 12 140 17300) xnwB) (hN : xNcE E) {n : Nat → Int32} {f : Nat → Nat → Int32} {g : Nat → Nat → Int64} {nc ni np nl q9 c a j : Nat} {O G P M R : Nat → Int32} {X L15 of9 : Int64} (hJ : JI n f g nc ni (np + 1) nl q9) (hK : kK nc ni (np + 1) nl f g O G P M R) (hq : q9 ≤ 500) (ha : a < 2 ^ 31) (hret : ∀ jc jr, aR E (some (.int 1)) (xC (xLw O G P M R) nc ni (np + 1) nl (n 1) f g jc jr)) (hL : L15 = (f 20 np).toInt64) (hX : X = 0 ↔ False) (hC : xsumL (yclr f O (nI c)) ni = X - ((nI a).toInt64 - L15)) (hj : j < ni) (hF : R c = 0 → (f 22 (24 * np + j)).toInt64 = if (nI a).toInt64 < of9 then (nI a).toInt64 else of9) {k s9 : Nat} {jc : Nat → Nat → Int32} {jr : Nat → Int64} (hk : k + 60 ≤ 140) (hs : s9 + 360 ≤ 17300) : aW E k s9 (xC (xLw O G P M R) nc ni (np + 1) nl (n 1) f g jc jr) 141 [(0, .ref 0), (1, .ref 230), (2, .ref 232), (3, .ref 233), (4, .int (nI c)), (5, .int (R c)), (6, .int (nI a)), (7, .int (nI np)), (8, .long X), (10, .int (nI j)), (11, .long of9), (13, .long (nI np).toInt64), (15, .long L15)] [] := by
  have hnl := JI_nl hJ (by omega)
  obtain ⟨hI, ⟨t9, ht, ht2, hG⟩, hLl⟩ := id hJ
  obtain ⟨-, -, -, -, hc6, hi24, hp24, hl16⟩ := id hI
  have hk1 := hK.2.1
  refine a_lload (i := 13) C dL_pays_141 rfl ?_
  refine a_iload (i := 7) C dL_pays_143 rfl ?_
  refine a_i2l C dL_pays_145 ?_
  refine a_lcmp C dL_pays_146 ?_
  refine a_if_ne (tgt := 261) C dL_pays_147 (by decide) (fun c147 => ?_) (fun c147 => ?_)
  · exact absurd (lcmp_eq.mpr rfl) c147
  · refine a_aload_n (i := 0) C dL_pays_150 rfl rfl ?_
    refine a_callV C dL_pays_151 cv_X6_payments tb150 (k_payments hflags) rfl rfl xC_0 rfl (Nat.le_of_ble_eq_true rfl) ⟨Nat.le_of_ble_eq_true rfl, Nat.le_of_ble_eq_true rfl⟩ ⟨show k + 0 ≤ 140 by omega, show s9 + 0 ≤ 17300 by omega⟩ (fun _ h => h.elim) xav_no (fun _ _ h => h.elim) (fun r151 hp151 hq151 => ?_)
    obtain ⟨rfl, rfl⟩ := hq151
    refine a_iload (i := 7) C dL_pays_154 rfl ?_
    refine a_iconst (v := 1) C dL_pays_156 (by decide) ?_
    refine a_iadd C dL_pays_157 ?_
    refine a_top (nI (np + 1)) (nI_1 np) ?_
    refine a_icmp_ne (tgt := 261) C dL_pays_158 (by decide) (fun c158 => ?_) (fun c158 => ?_)
    · exact absurd rfl c158
    · refine a_iload (i := 10) C dL_pays_161 rfl ?_
      refine a_if_ge (tgt := 170) C dL_pays_163 (by decide) (fun c163 => ?_) (fun c163 => ?_)
      · refine a_iconst (v := 0) C dL_pays_170 (by decide) ?_
        refine a_lload (i := 8) C dL_pays_171 rfl ?_
        refine a_lconst (v := 0) C dL_pays_173 (by decide) ?_
        refine a_lcmp C dL_pays_174 ?_
        refine a_if_ne (tgt := 182) C dL_pays_175 (by decide) (fun c175 => ?_) (fun c175 => ?_)
        · refine a_iconst (v := 0) C dL_pays_182 (by decide) ?_
          refine a_icmp_ne (tgt := 261) C dL_pays_183 (by decide) (fun c183 => ?_) (fun c183 => ?_)
          · exact absurd rfl c183
          · refine a_aload_n (i := 0) C dL_pays_186 rfl rfl ?_
            refine a_iload (i := 7) C dL_pays_187 rfl ?_
            refine a_callSN (na := 2) C hN dL_pays_189 ⟨tb746, tb23, tb747, ⟨by decide, by decide, by decide +kernel⟩⟩ tb745 (w_unallocated hflags xBs_w hJ hq) rfl rfl (Nat.le_of_ble_eq_true rfl) ⟨Nat.le_of_ble_eq_true rfl, Nat.le_of_ble_eq_true rfl⟩ ⟨show k + 1 ≤ 140 by omega, show s9 + 6 ≤ 17300 by omega⟩ (fun _ h => h.elim) xav_no (fun r189 hp189 hq189 => ?_)
            obtain ⟨rfl, jc189, jr189, rfl⟩ := pP_rd (v' := f 20 np) hq189 (xin_of (Nat.lt_succ_self np) (by omega)) (by rw [nI_clamp (by omega)])
            refine a_lload (i := 15) C dL_pays_192 rfl ?_
            refine a_lcmp C dL_pays_194 ?_
            refine a_if_ne (tgt := 261) C dL_pays_195 (by decide) (fun c195 => ?_) (fun c195 => ?_)
            · exact absurd (lcmp_eq.mpr hL.symm) c195
            · refine a_aload_n (i := 0) C dL_pays_198 rfl rfl ?_
              refine a_aload_n (i := 1) C dL_pays_199 rfl rfl ?_
              refine a_iload (i := 4) C dL_pays_200 rfl ?_
              refine a_callSP (na := 3) C hN dL_pays_202 ⟨tb921, tb23, tb922, ⟨by decide, by decide, by decide +kernel⟩⟩ tb920 (p_clear hflags xBs_w hJ hq rfl) rfl rfl (Nat.le_of_ble_eq_true rfl) ⟨Nat.le_of_ble_eq_true rfl, Nat.le_of_ble_eq_true rfl⟩ ⟨show k + 1 + 48 ≤ 140 by omega, show s9 + 6 + 288 ≤ 17300 by omega⟩ (fun _ h => h.elim) xav_no (fun r202 hp202 hq202 => ?_)
              obtain ⟨rfl, jc202, jr202, rfl⟩ := hq202
              refine a_lload (i := 8) C dL_pays_205 rfl ?_
              refine a_iload (i := 6) C dL_pays_207 rfl ?_
              refine a_i2l C dL_pays_209 ?_
              refine a_lload (i := 15) C dL_pays_210 rfl ?_
              refine a_lsub C dL_pays_212 ?_
              refine a_lsub C dL_pays_213 ?_
              refine a_lcmp C dL_pays_214 ?_
              refine a_if_ne (tgt := 261) C dL_pays_215 (by decide) (fun c215 => ?_) (fun c215 => ?_)
              · exact absurd (lcmp_eq.mpr hC) c215
              · refine a_iload (i := 5) C dL_pays_218 rfl ?_
                refine a_if_ne (tgt := 257) C dL_pays_220 (by decide) (fun c220 => ?_) (fun c220 => ?_)
                · refine a_iconst (v := 1) C dL_pays_257 (by decide) ?_
                  refine a_goto (tgt := 262) C dL_pays_258 (by decide) ?_
                  exact a_zret C dL_pays_262 (by first | rfl | exact bI_nar) (by show _ ≤ 140; omega) (by show _ ≤ 17300; omega) (hret _ _)
                · refine a_iload (i := 10) C dL_pays_223 rfl ?_
                  refine a_if_lt (tgt := 257) C dL_pays_225 (by decide) (fun c225 => ?_) (fun c225 => ?_)
                  · exact absurd c225 (Int32.not_lt.mpr ((xle (a := 0) (b := j) (by omega) (by omega)).mpr (Nat.zero_le j)))
                  · refine a_aload_n (i := 0) C dL_pays_228 rfl rfl ?_
                    refine a_iload (i := 7) C dL_pays_229 rfl ?_
                    refine a_iload (i := 10) C dL_pays_231 rfl ?_
                    refine a_callSN (na := 3) C hN dL_pays_233 ⟨tb739, tb23, tb740, ⟨by decide, by decide, by decide +kernel⟩⟩ tb738 (w_allocated hflags xBs_w hJ hq) rfl rfl (Nat.le_of_ble_eq_true rfl) ⟨Nat.le_of_ble_eq_true rfl, Nat.le_of_ble_eq_true rfl⟩ ⟨show k + 1 + 48 + 2 ≤ 140 by omega, show s9 + 6 + 288 + 12 ≤ 17300 by omega⟩ (fun _ h => h.elim) xav_no (fun r233 hp233 hq233 => ?_)
                    obtain ⟨rfl, jc233, jr233, rfl⟩ := pP_rd (v' := f 22 (24 * np + j)) hq233 ⟨xin_of (Nat.lt_succ_self np) (by omega), xin_of hj (by omega)⟩ (by rw [nI_clamp (by omega), nI_clamp (by omega)])
                    refine a_iload (i := 6) C dL_pays_236 rfl ?_
                    refine a_i2l C dL_pays_238 ?_
                    refine a_lload (i := 11) C dL_pays_239 rfl ?_
                    refine a_lcmp C dL_pays_241 ?_
                    refine a_if_ge (tgt := 251) C dL_pays_242 (by decide) (fun c242 => ?_) (fun c242 => ?_)
                    · refine a_lload (i := 11) C dL_pays_251 rfl ?_
                      refine a_lcmp C dL_pays_253 ?_
                      refine a_if_ne (tgt := 261) C dL_pays_254 (by decide) (fun c254 => ?_) (fun c254 => ?_)
                      · first | exact absurd (lcmp_eq.mpr ((hF c220).trans (if_neg (lcmp_ge.mp c242)))) c254 | exact absurd (lcmp_eq.mpr ((hF c220).trans (if_pos (lcmp_lt.mp (Int32.not_le.mp c242))))) c254
                      · refine a_iconst (v := 1) C dL_pays_257 (by decide) ?_
                        refine a_goto (tgt := 262) C dL_pays_258 (by decide) ?_
                        exact a_zret C dL_pays_262 (by first | rfl | exact bI_nar) (by show _ ≤ 140; omega) (by show _ ≤ 17300; omega) (hret _ _)
                    · refine a_iload (i := 6) C dL_pays_245 rfl ?_
                      refine a_i2l C dL_pays_247 ?_
                      refine a_goto (tgt := 253) C dL_pays_248 (by decide) ?_
                      refine a_lcmp C dL_pays_253 ?_
                      refine a_if_ne (tgt := 261) C dL_pays_254 (by decide) (fun c254 => ?_) (fun c254 => ?_)
                      · first | exact absurd (lcmp_eq.mpr ((hF c220).trans (if_neg (lcmp_ge.mp c242)))) c254 | exact absurd (lcmp_eq.mpr ((hF c220).trans (if_pos (lcmp_lt.mp (Int32.not_le.mp c242))))) c254
                      · refine a_iconst (v := 1) C dL_pays_257 (by decide) ?_
                        refine a_goto (tgt := 262) C dL_pays_258 (by decide) ?_
                        exact a_zret C dL_pays_262 (by first | rfl | exact bI_nar) (by show _ ≤ 140; omega) (by show _ ≤ 17300; omega) (hret _ _)
        · exact absurd (lcmp_eq.mp c175) (fun z => (hX.mp z).elim)
      · exact absurd ((xle (a := 0) (b := j) (by omega) (by omega)).mpr (Nat.zero_le j)) c163
