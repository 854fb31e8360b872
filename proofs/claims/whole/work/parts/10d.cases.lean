theorem bud1 {q nl nl' k c : Nat} (hq : q < 512) (hk : k ≤ 34 + 8 * q + 2 * lGen nl) (hc : c ≤ 8) (h1 : nl ≤ nl') (h2 : nl' ≤ 16000) : k + (c + lCel nl nl') ≤ 34 + 8 * (q + 1) + 2 * lGen nl' ∧ k + (c + lCel nl nl') ≤ 601024 := by
  have h3 := lC_mono h1 h2
  have h4 := lGen_le nl'
  unfold lCel
  omega
theorem bud2 {q nl nl' k c : Nat} (hq : q < 512) (hk : k ≤ 33300 + 100 * q + 4 * lCap nl) (hc : c ≤ 100) (h1 : nl ≤ nl') (h2 : nl' ≤ 16000) : k + (c + lSlt nl nl') ≤ 33300 + 100 * (q + 1) + 4 * lCap nl' ∧ k + (c + lSlt nl nl') ≤ 7293034 := by
  have h3 := lC_mono h1 h2
  have h4 := lCap_le nl'
  unfold lSlt
  omega
theorem bud3 {q nl k c : Nat} (hq : q < 512) (hk : k ≤ 34 + 8 * q + 2 * lGen nl) (hc : c ≤ 8) : k + c ≤ 34 + 8 * (q + 1) + 2 * lGen nl ∧ k + c ≤ 601024 := by
  have h4 := lGen_le nl
  omega
theorem bud4 {q nl k c : Nat} (hq : q < 512) (hk : k ≤ 33300 + 100 * q + 4 * lCap nl) (hc : c ≤ 100) : k + c ≤ 33300 + 100 * (q + 1) + 4 * lCap nl ∧ k + c ≤ 7293034 := by
  have h4 := lCap_le nl
  omega
theorem xnwD_law {a b : Nat} (h : a < 340 ∨ 399 < a) (e : a = b) : ¬ xnwD b := fun z => by
  have z1 : 340 ≤ b ∧ b ≤ 399 := z
  omega
theorem xnwB_law {a b : Nat} (h : a < 16 ∨ (127 < a ∧ a < 300) ∨ 399 < a) (e : a = b) : ¬ xnwB b := xnwB_ok h e
theorem xnwB_lt {j : Nat} (h : xnwB j) : nwLaw j := by
  have z : (16 ≤ j ∧ j ≤ 127) ∨ (300 ≤ j ∧ j ≤ 399) := h
  show j < 900
  omega
theorem mVS_le {p nl : Nat} {n : Nat → Int32} {f : Nat → Nat → Int32} : ∀ k, (mVS p nl n f k).2.1 ≤ nl + k := by
  intro k
  induction k with
  | zero => exact Nat.le_refl _
  | succ k ih =>
    show mWl (mVS p nl n f k).2.1 _ ≤ nl + (k + 1)
    have := (mWl_1 (nl := (mVS p nl n f k).2.1) (a := (mVS p nl n f k).2.2.2 22 (24 * p + k))).1
    omega
theorem xM_of_230 {H : xH} {o : Int64} (h : H 230 = some (.inl (1, 1, .inr (.inl (fun q => if q = 0 then o else 0))))) : H 230 = some (.inl (1, 1, .inr (.inl (fun q => if q = 0 then o else 0)))) := h
set_option maxRecDepth 100000 in
set_option maxHeartbeats 4000000 in
theorem lc_addCustomer {E : xEnv} {l : Launch} {N0 : Nat} {D : va_G} {dT : Nat → ClassId} {ret : Option FieldType} {tab : List ExceptionTableEntry} (hflags : l.stackTraces = false) (C : aC E l N0 D dT cL_law "ReceivablesBookLaw" 7 ret tab room_1 nwLaw) (hN : xNcE E) {Ln i q9 : Nat} {xs : Nat → Int32} (hS : xScr Ln xs E) (hLn : Ln ≤ 2048) (hi : i + 4 ≤ Ln) (hq : q9 < 512) {o9 : Int64} {n : Nat → Int32} {f : Nat → Nat → Int32} {g : Nat → Nat → Int64} {nc ni np nl : Nat} {jc : Nat → Nat → Int32} {jr : Nat → Int64} {k ns : Nat} (hJ : JI n f g nc ni np nl q9) (hk : k ≤ 34 + 8 * q9 + 2 * lGen nl) (hns : ns ≤ 33300 + 100 * q9 + 4 * lCap nl) (next : ∀ (o : Int64) (n : Nat → Int32) (f : Nat → Nat → Int32) (g : Nat → Nat → Int64) (nc ni np nl : Nat) (jc : Nat → Nat → Int32) (jr : Nat → Int64) (k ns : Nat), JI n f g nc ni np nl (q9 + 1) → k ≤ 34 + 8 * (q9 + 1) + 2 * lGen nl → ns ≤ 33300 + 100 * (q9 + 1) + 4 * lCap nl → aW E k ns (xC (xM (xOut o) n f g) nc ni np nl (n 1) f g jc jr) 2412 [(0, .ref 908), (1, .ref 0), (2, .ref 200), (3, .ref 230), (4, .int (nI i))] []) : aW E k ns (xC (xM (xOut o9) n f g) nc ni np nl (n 1) f g jc jr) 208 [(0, .ref 908), (1, .ref 0), (2, .ref 200), (3, .ref 230), (4, .int (nI i))] [] := by
  have hnl := JI_nl hJ (by omega)
  obtain ⟨hI, ⟨t9, ht, ht2, hG⟩, hLl⟩ := id hJ
  obtain ⟨-, -, -, -, hc6, hi24, hp24, hl16⟩ := id hI
  have hB : nc ≤ 6 ∧ ni ≤ 24 ∧ np ≤ 24 ∧ nl ≤ 16000 := ⟨hc6, hi24, hp24, hl16⟩
  have h9 := hG.2.1.2.1 nc (Nat.le_refl nc)
  have hOw := xow_lt hG.1.1 hc6
  have hPw := pow_lt hG.1.2.1 hc6
  have hS9 : sP n f g nc ni np nl q9 ((nc + 1)) (ni) (np) (nl) ((o_addCustomer nc (xs (i + 1)) (xs (i + 2)) (xs (i + 3)) n f g)) := (S_addCustomer hJ (by omega))
  refine a_aload_n (i := 1) C dL_law_208 rfl rfl ?_
  refine a_aload_n (i := 0) C dL_law_209 rfl rfl ?_
  refine a_iload (i := 4) C dL_law_210 rfl ?_
  refine a_iconst (v := 1) C dL_law_212 (by decide) ?_
  refine a_iadd C dL_law_213 ?_
  refine a_top (nI (i + 1)) (nI_add i 1) ?_
  refine a_scrGet C hS dL_law_214 (by omega) (by omega) ?_
  refine a_aload_n (i := 0) C dL_law_215 rfl rfl ?_
  refine a_iload (i := 4) C dL_law_216 rfl ?_
  refine a_iconst (v := 2) C dL_law_218 (by decide) ?_
  refine a_iadd C dL_law_219 ?_
  refine a_top (nI (i + 2)) (nI_add i 2) ?_
  refine a_scrGet C hS dL_law_220 (by omega) (by omega) ?_
  refine a_aload_n (i := 0) C dL_law_221 rfl rfl ?_
  refine a_iload (i := 4) C dL_law_222 rfl ?_
  refine a_iconst (v := 3) C dL_law_224 (by decide) ?_
  refine a_iadd C dL_law_225 ?_
  refine a_top (nI (i + 3)) (nI_add i 3) ?_
  refine a_scrGet C hS dL_law_226 (by omega) (by omega) ?_
  refine a_aload_n (i := 3) C dL_law_227 rfl rfl ?_
  refine a_callSN (na := 5) C hN dL_law_228 ⟨tb183, tb46, tb184, ⟨by decide, by decide, by decide +kernel⟩⟩ tb182 (w_addCustomer hflags (o9 := o9) hB h9 hOw hPw) rfl rfl (Nat.le_of_ble_eq_true rfl) ⟨Nat.le_of_ble_eq_true rfl, Nat.le_of_ble_eq_true rfl⟩ ⟨(bud3 (c := 6) hq hk (by decide)).2, (bud4 (c := 61) hq hns (by decide)).2⟩ (fun j h => xnwB_lt h) ⟨fun q hq j hj => (by simp only [List.mem_cons, List.not_mem_nil, or_false] at hq; rcases hq with rfl | rfl | rfl | rfl | rfl <;> first | exact Value.noConfusion hj | exact xnwB_law (by decide) (Value.ref.inj hj)), fun v hv => nomatch hv⟩ (fun r1 hp1 hq1 => ?_)
  by_cases hc : ((o_addCustomer nc (xs (i + 1)) (xs (i + 2)) (xs (i + 3)) n f g)).2.1 0 = 0
  · obtain ⟨rfl, o2, jc2, jr2, hA, -⟩ := hq1
    obtain ⟨e1, rfl⟩ := hA hc
    refine a_istore (i := 5) C dL_law_231 (by decide) ?_
    refine a_aload_n (i := 2) C dL_law_233 rfl rfl ?_
    refine a_aload_n (i := 0) C dL_law_234 rfl rfl ?_
    refine a_iload (i := 4) C dL_law_235 rfl ?_
    refine a_iconst (v := 1) C dL_law_237 (by decide) ?_
    refine a_iadd C dL_law_238 ?_
    refine a_top (nI (i + 1)) (nI_add i 1) ?_
    refine a_scrGet C hS dL_law_239 (by omega) (by omega) ?_
    refine a_aload_n (i := 0) C dL_law_240 rfl rfl ?_
    refine a_iload (i := 4) C dL_law_241 rfl ?_
    refine a_iconst (v := 2) C dL_law_243 (by decide) ?_
    refine a_iadd C dL_law_244 ?_
    refine a_top (nI (i + 2)) (nI_add i 2) ?_
    refine a_scrGet C hS dL_law_245 (by omega) (by omega) ?_
    refine a_aload_n (i := 0) C dL_law_246 rfl rfl ?_
    refine a_iload (i := 4) C dL_law_247 rfl ?_
    refine a_iconst (v := 3) C dL_law_249 (by decide) ?_
    refine a_iadd C dL_law_250 ?_
    refine a_top (nI (i + 3)) (nI_add i 3) ?_
    refine a_scrGet C hS dL_law_251 (by omega) (by omega) ?_
    refine a_hp xCM ?_
    refine a_callV C dL_law_252 cv_X7_addCustomer tb1025 (m_X7_addCustomer hflags hI) rfl rfl xM_0 rfl (Nat.le_of_ble_eq_true rfl) ⟨Nat.le_of_ble_eq_true rfl, Nat.le_of_ble_eq_true rfl⟩ ⟨(bud3 (c := 6) hq hk (by decide)).2, (bud4 (c := 61) hq hns (by decide)).2⟩ (fun _ h => h.elim) xav_no (fun _ _ h => h.elim) (fun r2 hp2 hq2 => ?_)
    obtain ⟨rfl, rfl⟩ := hq2
    refine a_loc [(0, .ref 908), (1, .ref 0), (2, .ref 200), (3, .ref 230), (4, .int (nI i)), (5, .int (((o_addCustomer nc (xs (i + 1)) (xs (i + 2)) (xs (i + 3)) n f g)).2.1 0))] (xsub_cons rfl (xsub_cons rfl (xsub_cons rfl (xsub_cons rfl (xsub_cons rfl (xsub_cons rfl (xsub_nil))))))) ?_
    exact l_tail hflags C (p0 := 255) dL_law_255 dL_law_257 dL_law_258 dL_law_261 dL_law_263 dL_law_268 dL_law_270 dL_law_273 dL_law_274 dL_law_275 dL_law_276 dL_law_278 dL_law_279 dL_law_280 dL_law_285 (by decide) (bud3 (c := 6) hq hk (by decide)).2 (bud4 (c := 61) hq hns (by decide)).2 (fun _ => e1) (a_hp xCM.symm (next o2 _ _ _ _ _ _ _ jc2 jr2 _ _ (hS9.1 hc) (bud3 (c := 6) hq hk (by decide)).1 (bud4 (c := 61) hq hns (by decide)).1))
  · obtain ⟨rfl, o2, jc2, jr2, -, hF⟩ := hq1
    obtain rfl := hF hc
    refine a_istore (i := 5) C dL_law_231 (by decide) ?_
    refine a_aload_n (i := 2) C dL_law_233 rfl rfl ?_
    refine a_aload_n (i := 0) C dL_law_234 rfl rfl ?_
    refine a_iload (i := 4) C dL_law_235 rfl ?_
    refine a_iconst (v := 1) C dL_law_237 (by decide) ?_
    refine a_iadd C dL_law_238 ?_
    refine a_top (nI (i + 1)) (nI_add i 1) ?_
    refine a_scrGet C hS dL_law_239 (by omega) (by omega) ?_
    refine a_aload_n (i := 0) C dL_law_240 rfl rfl ?_
    refine a_iload (i := 4) C dL_law_241 rfl ?_
    refine a_iconst (v := 2) C dL_law_243 (by decide) ?_
    refine a_iadd C dL_law_244 ?_
    refine a_top (nI (i + 2)) (nI_add i 2) ?_
    refine a_scrGet C hS dL_law_245 (by omega) (by omega) ?_
    refine a_aload_n (i := 0) C dL_law_246 rfl rfl ?_
    refine a_iload (i := 4) C dL_law_247 rfl ?_
    refine a_iconst (v := 3) C dL_law_249 (by decide) ?_
    refine a_iadd C dL_law_250 ?_
    refine a_top (nI (i + 3)) (nI_add i 3) ?_
    refine a_scrGet C hS dL_law_251 (by omega) (by omega) ?_
    refine a_hp xCM ?_
    refine a_callV C dL_law_252 cv_X7_addCustomer tb1025 (m_X7_addCustomer hflags hI) rfl rfl xM_0 rfl (Nat.le_of_ble_eq_true rfl) ⟨Nat.le_of_ble_eq_true rfl, Nat.le_of_ble_eq_true rfl⟩ ⟨(bud3 (c := 6) hq hk (by decide)).2, (bud4 (c := 61) hq hns (by decide)).2⟩ (fun _ h => h.elim) xav_no (fun _ _ h => h.elim) (fun r2 hp2 hq2 => ?_)
    obtain ⟨rfl, rfl⟩ := hq2
    refine a_loc [(0, .ref 908), (1, .ref 0), (2, .ref 200), (3, .ref 230), (4, .int (nI i)), (5, .int (((o_addCustomer nc (xs (i + 1)) (xs (i + 2)) (xs (i + 3)) n f g)).2.1 0))] (xsub_cons rfl (xsub_cons rfl (xsub_cons rfl (xsub_cons rfl (xsub_cons rfl (xsub_cons rfl (xsub_nil))))))) ?_
    obtain ⟨eF, eG, e1, hJ2⟩ := hS9.2 hc
    refine l_tail hflags C (p0 := 255) dL_law_255 dL_law_257 dL_law_258 dL_law_261 dL_law_263 dL_law_268 dL_law_270 dL_law_273 dL_law_274 dL_law_275 dL_law_276 dL_law_278 dL_law_279 dL_law_280 dL_law_285 (by decide) (bud3 (c := 6) hq hk (by decide)).2 (bud4 (c := 61) hq hns (by decide)).2 (fun z => absurd z hc) ?_
    refine a_hp (show _ = xC (xM (xOut o2) ((o_addCustomer nc (xs (i + 1)) (xs (i + 2)) (xs (i + 3)) n f g)).2.1 f g) nc ni np nl (((o_addCustomer nc (xs (i + 1)) (xs (i + 2)) (xs (i + 3)) n f g)).2.1 1) f g jc2 jr2 by rw [eF, eG, e1, xCM]) ?_
    exact next o2 _ _ _ _ _ _ _ jc2 jr2 _ _ hJ2 (bud3 (c := 6) hq hk (by decide)).1 (bud4 (c := 61) hq hns (by decide)).1
set_option maxRecDepth 100000 in
set_option maxHeartbeats 4000000 in
theorem lc_setRule {E : xEnv} {l : Launch} {N0 : Nat} {D : va_G} {dT : Nat → ClassId} {ret : Option FieldType} {tab : List ExceptionTableEntry} (hflags : l.stackTraces = false) (C : aC E l N0 D dT cL_law "ReceivablesBookLaw" 7 ret tab room_1 nwLaw) (hN : xNcE E) {Ln i q9 : Nat} {xs : Nat → Int32} (hS : xScr Ln xs E) (hLn : Ln ≤ 2048) (hi : i + 4 ≤ Ln) (hq : q9 < 512) {o9 : Int64} {n : Nat → Int32} {f : Nat → Nat → Int32} {g : Nat → Nat → Int64} {nc ni np nl : Nat} {jc : Nat → Nat → Int32} {jr : Nat → Int64} {k ns : Nat} (hJ : JI n f g nc ni np nl q9) (hk : k ≤ 34 + 8 * q9 + 2 * lGen nl) (hns : ns ≤ 33300 + 100 * q9 + 4 * lCap nl) (next : ∀ (o : Int64) (n : Nat → Int32) (f : Nat → Nat → Int32) (g : Nat → Nat → Int64) (nc ni np nl : Nat) (jc : Nat → Nat → Int32) (jr : Nat → Int64) (k ns : Nat), JI n f g nc ni np nl (q9 + 1) → k ≤ 34 + 8 * (q9 + 1) + 2 * lGen nl → ns ≤ 33300 + 100 * (q9 + 1) + 4 * lCap nl → aW E k ns (xC (xM (xOut o) n f g) nc ni np nl (n 1) f g jc jr) 2412 [(0, .ref 908), (1, .ref 0), (2, .ref 200), (3, .ref 230), (4, .int (nI i))] []) : aW E k ns (xC (xM (xOut o9) n f g) nc ni np nl (n 1) f g jc jr) 288 [(0, .ref 908), (1, .ref 0), (2, .ref 200), (3, .ref 230), (4, .int (nI i))] [] := by
  have hnl := JI_nl hJ (by omega)
  obtain ⟨hI, ⟨t9, ht, ht2, hG⟩, hLl⟩ := id hJ
  obtain ⟨-, -, -, -, hc6, hi24, hp24, hl16⟩ := id hI
  have hB : nc ≤ 6 ∧ ni ≤ 24 ∧ np ≤ 24 ∧ nl ≤ 16000 := ⟨hc6, hi24, hp24, hl16⟩
  have hS9 : sP n f g nc ni np nl q9 (nc) (ni) (np) (nl) ((o_setRule nc (xs (i + 1)) (xs (i + 2)) n f g)) := (S_setRule hJ (by omega))
  refine a_aload_n (i := 1) C dL_law_288 rfl rfl ?_
  refine a_aload_n (i := 0) C dL_law_289 rfl rfl ?_
  refine a_iload (i := 4) C dL_law_290 rfl ?_
  refine a_iconst (v := 1) C dL_law_292 (by decide) ?_
  refine a_iadd C dL_law_293 ?_
  refine a_top (nI (i + 1)) (nI_add i 1) ?_
  refine a_scrGet C hS dL_law_294 (by omega) (by omega) ?_
  refine a_aload_n (i := 0) C dL_law_295 rfl rfl ?_
  refine a_iload (i := 4) C dL_law_296 rfl ?_
  refine a_iconst (v := 2) C dL_law_298 (by decide) ?_
  refine a_iadd C dL_law_299 ?_
  refine a_top (nI (i + 2)) (nI_add i 2) ?_
  refine a_scrGet C hS dL_law_300 (by omega) (by omega) ?_
  refine a_aload_n (i := 3) C dL_law_301 rfl rfl ?_
  refine a_callSN (na := 4) C hN dL_law_302 ⟨tb364, tb46, tb365, ⟨by decide, by decide, by decide +kernel⟩⟩ tb363 (w_setRule hflags (o9 := o9) hB ) rfl rfl (Nat.le_of_ble_eq_true rfl) ⟨Nat.le_of_ble_eq_true rfl, Nat.le_of_ble_eq_true rfl⟩ ⟨(bud3 (c := 2) hq hk (by decide)).2, (bud4 (c := 12) hq hns (by decide)).2⟩ (fun _ h => h.elim) xav_no (fun r1 hp1 hq1 => ?_)
  by_cases hc : ((o_setRule nc (xs (i + 1)) (xs (i + 2)) n f g)).2.1 0 = 0
  · obtain ⟨rfl, o2, jc2, jr2, hA, -⟩ := hq1
    obtain ⟨e1, rfl⟩ := hA hc
    refine a_istore (i := 5) C dL_law_305 (by decide) ?_
    refine a_aload_n (i := 2) C dL_law_307 rfl rfl ?_
    refine a_aload_n (i := 0) C dL_law_308 rfl rfl ?_
    refine a_iload (i := 4) C dL_law_309 rfl ?_
    refine a_iconst (v := 1) C dL_law_311 (by decide) ?_
    refine a_iadd C dL_law_312 ?_
    refine a_top (nI (i + 1)) (nI_add i 1) ?_
    refine a_scrGet C hS dL_law_313 (by omega) (by omega) ?_
    refine a_aload_n (i := 0) C dL_law_314 rfl rfl ?_
    refine a_iload (i := 4) C dL_law_315 rfl ?_
    refine a_iconst (v := 2) C dL_law_317 (by decide) ?_
    refine a_iadd C dL_law_318 ?_
    refine a_top (nI (i + 2)) (nI_add i 2) ?_
    refine a_scrGet C hS dL_law_319 (by omega) (by omega) ?_
    refine a_hp xCM ?_
    refine a_callV C dL_law_320 cv_X7_setRule tb1036 (m_X7_setRule hflags hI) rfl rfl xM_0 rfl (Nat.le_of_ble_eq_true rfl) ⟨Nat.le_of_ble_eq_true rfl, Nat.le_of_ble_eq_true rfl⟩ ⟨(bud3 (c := 2) hq hk (by decide)).2, (bud4 (c := 12) hq hns (by decide)).2⟩ (fun _ h => h.elim) xav_no (fun _ _ h => h.elim) (fun r2 hp2 hq2 => ?_)
    obtain ⟨rfl, rfl⟩ := hq2
    refine a_loc [(0, .ref 908), (1, .ref 0), (2, .ref 200), (3, .ref 230), (4, .int (nI i)), (5, .int (((o_setRule nc (xs (i + 1)) (xs (i + 2)) n f g)).2.1 0))] (xsub_cons rfl (xsub_cons rfl (xsub_cons rfl (xsub_cons rfl (xsub_cons rfl (xsub_cons rfl (xsub_nil))))))) ?_
    exact l_tail hflags C (p0 := 323) dL_law_323 dL_law_325 dL_law_326 dL_law_329 dL_law_331 dL_law_336 dL_law_338 dL_law_341 dL_law_342 dL_law_343 dL_law_344 dL_law_346 dL_law_347 dL_law_348 dL_law_353 (by decide) (bud3 (c := 2) hq hk (by decide)).2 (bud4 (c := 12) hq hns (by decide)).2 (fun _ => e1) (a_hp xCM.symm (next o2 _ _ _ _ _ _ _ jc2 jr2 _ _ (hS9.1 hc) (bud3 (c := 2) hq hk (by decide)).1 (bud4 (c := 12) hq hns (by decide)).1))
  · obtain ⟨rfl, o2, jc2, jr2, -, hF⟩ := hq1
    obtain rfl := hF hc
    refine a_istore (i := 5) C dL_law_305 (by decide) ?_
    refine a_aload_n (i := 2) C dL_law_307 rfl rfl ?_
    refine a_aload_n (i := 0) C dL_law_308 rfl rfl ?_
    refine a_iload (i := 4) C dL_law_309 rfl ?_
    refine a_iconst (v := 1) C dL_law_311 (by decide) ?_
    refine a_iadd C dL_law_312 ?_
    refine a_top (nI (i + 1)) (nI_add i 1) ?_
    refine a_scrGet C hS dL_law_313 (by omega) (by omega) ?_
    refine a_aload_n (i := 0) C dL_law_314 rfl rfl ?_
    refine a_iload (i := 4) C dL_law_315 rfl ?_
    refine a_iconst (v := 2) C dL_law_317 (by decide) ?_
    refine a_iadd C dL_law_318 ?_
    refine a_top (nI (i + 2)) (nI_add i 2) ?_
    refine a_scrGet C hS dL_law_319 (by omega) (by omega) ?_
    refine a_hp xCM ?_
    refine a_callV C dL_law_320 cv_X7_setRule tb1036 (m_X7_setRule hflags hI) rfl rfl xM_0 rfl (Nat.le_of_ble_eq_true rfl) ⟨Nat.le_of_ble_eq_true rfl, Nat.le_of_ble_eq_true rfl⟩ ⟨(bud3 (c := 2) hq hk (by decide)).2, (bud4 (c := 12) hq hns (by decide)).2⟩ (fun _ h => h.elim) xav_no (fun _ _ h => h.elim) (fun r2 hp2 hq2 => ?_)
    obtain ⟨rfl, rfl⟩ := hq2
    refine a_loc [(0, .ref 908), (1, .ref 0), (2, .ref 200), (3, .ref 230), (4, .int (nI i)), (5, .int (((o_setRule nc (xs (i + 1)) (xs (i + 2)) n f g)).2.1 0))] (xsub_cons rfl (xsub_cons rfl (xsub_cons rfl (xsub_cons rfl (xsub_cons rfl (xsub_cons rfl (xsub_nil))))))) ?_
    obtain ⟨eF, eG, e1, hJ2⟩ := hS9.2 hc
    refine l_tail hflags C (p0 := 323) dL_law_323 dL_law_325 dL_law_326 dL_law_329 dL_law_331 dL_law_336 dL_law_338 dL_law_341 dL_law_342 dL_law_343 dL_law_344 dL_law_346 dL_law_347 dL_law_348 dL_law_353 (by decide) (bud3 (c := 2) hq hk (by decide)).2 (bud4 (c := 12) hq hns (by decide)).2 (fun z => absurd z hc) ?_
    refine a_hp (show _ = xC (xM (xOut o2) ((o_setRule nc (xs (i + 1)) (xs (i + 2)) n f g)).2.1 f g) nc ni np nl (((o_setRule nc (xs (i + 1)) (xs (i + 2)) n f g)).2.1 1) f g jc2 jr2 by rw [eF, eG, e1, xCM]) ?_
    exact next o2 _ _ _ _ _ _ _ jc2 jr2 _ _ hJ2 (bud3 (c := 2) hq hk (by decide)).1 (bud4 (c := 12) hq hns (by decide)).1
set_option maxRecDepth 100000 in
set_option maxHeartbeats 4000000 in
theorem lc_setRate {E : xEnv} {l : Launch} {N0 : Nat} {D : va_G} {dT : Nat → ClassId} {ret : Option FieldType} {tab : List ExceptionTableEntry} (hflags : l.stackTraces = false) (C : aC E l N0 D dT cL_law "ReceivablesBookLaw" 7 ret tab room_1 nwLaw) (hN : xNcE E) {Ln i q9 : Nat} {xs : Nat → Int32} (hS : xScr Ln xs E) (hLn : Ln ≤ 2048) (hi : i + 4 ≤ Ln) (hq : q9 < 512) {o9 : Int64} {n : Nat → Int32} {f : Nat → Nat → Int32} {g : Nat → Nat → Int64} {nc ni np nl : Nat} {jc : Nat → Nat → Int32} {jr : Nat → Int64} {k ns : Nat} (hJ : JI n f g nc ni np nl q9) (hk : k ≤ 34 + 8 * q9 + 2 * lGen nl) (hns : ns ≤ 33300 + 100 * q9 + 4 * lCap nl) (next : ∀ (o : Int64) (n : Nat → Int32) (f : Nat → Nat → Int32) (g : Nat → Nat → Int64) (nc ni np nl : Nat) (jc : Nat → Nat → Int32) (jr : Nat → Int64) (k ns : Nat), JI n f g nc ni np nl (q9 + 1) → k ≤ 34 + 8 * (q9 + 1) + 2 * lGen nl → ns ≤ 33300 + 100 * (q9 + 1) + 4 * lCap nl → aW E k ns (xC (xM (xOut o) n f g) nc ni np nl (n 1) f g jc jr) 2412 [(0, .ref 908), (1, .ref 0), (2, .ref 200), (3, .ref 230), (4, .int (nI i))] []) : aW E k ns (xC (xM (xOut o9) n f g) nc ni np nl (n 1) f g jc jr) 356 [(0, .ref 908), (1, .ref 0), (2, .ref 200), (3, .ref 230), (4, .int (nI i))] [] := by
  have hnl := JI_nl hJ (by omega)
  obtain ⟨hI, ⟨t9, ht, ht2, hG⟩, hLl⟩ := id hJ
  obtain ⟨-, -, -, -, hc6, hi24, hp24, hl16⟩ := id hI
  have hB : nc ≤ 6 ∧ ni ≤ 24 ∧ np ≤ 24 ∧ nl ≤ 16000 := ⟨hc6, hi24, hp24, hl16⟩
  have hS9 : sP n f g nc ni np nl q9 (nc) (ni) (np) (nl) ((o_setRate nc (xs (i + 1)) (xs (i + 2)) n f g)) := (S_setRate hJ (by omega))
  refine a_aload_n (i := 1) C dL_law_356 rfl rfl ?_
  refine a_aload_n (i := 0) C dL_law_357 rfl rfl ?_
  refine a_iload (i := 4) C dL_law_358 rfl ?_
  refine a_iconst (v := 1) C dL_law_360 (by decide) ?_
  refine a_iadd C dL_law_361 ?_
  refine a_top (nI (i + 1)) (nI_add i 1) ?_
  refine a_scrGet C hS dL_law_362 (by omega) (by omega) ?_
  refine a_aload_n (i := 0) C dL_law_363 rfl rfl ?_
  refine a_iload (i := 4) C dL_law_364 rfl ?_
  refine a_iconst (v := 2) C dL_law_366 (by decide) ?_
  refine a_iadd C dL_law_367 ?_
  refine a_top (nI (i + 2)) (nI_add i 2) ?_
  refine a_scrGet C hS dL_law_368 (by omega) (by omega) ?_
  refine a_aload_n (i := 3) C dL_law_369 rfl rfl ?_
  refine a_callSN (na := 4) C hN dL_law_370 ⟨tb409, tb46, tb410, ⟨by decide, by decide, by decide +kernel⟩⟩ tb408 (w_setRate hflags (o9 := o9) hB ) rfl rfl (Nat.le_of_ble_eq_true rfl) ⟨Nat.le_of_ble_eq_true rfl, Nat.le_of_ble_eq_true rfl⟩ ⟨(bud3 (c := 2) hq hk (by decide)).2, (bud4 (c := 12) hq hns (by decide)).2⟩ (fun _ h => h.elim) xav_no (fun r1 hp1 hq1 => ?_)
  by_cases hc : ((o_setRate nc (xs (i + 1)) (xs (i + 2)) n f g)).2.1 0 = 0
  · obtain ⟨rfl, o2, jc2, jr2, hA, -⟩ := hq1
    obtain ⟨e1, rfl⟩ := hA hc
    refine a_istore (i := 5) C dL_law_373 (by decide) ?_
    refine a_aload_n (i := 2) C dL_law_375 rfl rfl ?_
    refine a_aload_n (i := 0) C dL_law_376 rfl rfl ?_
    refine a_iload (i := 4) C dL_law_377 rfl ?_
    refine a_iconst (v := 1) C dL_law_379 (by decide) ?_
    refine a_iadd C dL_law_380 ?_
    refine a_top (nI (i + 1)) (nI_add i 1) ?_
    refine a_scrGet C hS dL_law_381 (by omega) (by omega) ?_
    refine a_aload_n (i := 0) C dL_law_382 rfl rfl ?_
    refine a_iload (i := 4) C dL_law_383 rfl ?_
    refine a_iconst (v := 2) C dL_law_385 (by decide) ?_
    refine a_iadd C dL_law_386 ?_
    refine a_top (nI (i + 2)) (nI_add i 2) ?_
    refine a_scrGet C hS dL_law_387 (by omega) (by omega) ?_
    refine a_hp xCM ?_
    refine a_callV C dL_law_388 cv_X7_setRate tb1044 (m_X7_setRate hflags hI) rfl rfl xM_0 rfl (Nat.le_of_ble_eq_true rfl) ⟨Nat.le_of_ble_eq_true rfl, Nat.le_of_ble_eq_true rfl⟩ ⟨(bud3 (c := 2) hq hk (by decide)).2, (bud4 (c := 12) hq hns (by decide)).2⟩ (fun _ h => h.elim) xav_no (fun _ _ h => h.elim) (fun r2 hp2 hq2 => ?_)
    obtain ⟨rfl, rfl⟩ := hq2
    refine a_loc [(0, .ref 908), (1, .ref 0), (2, .ref 200), (3, .ref 230), (4, .int (nI i)), (5, .int (((o_setRate nc (xs (i + 1)) (xs (i + 2)) n f g)).2.1 0))] (xsub_cons rfl (xsub_cons rfl (xsub_cons rfl (xsub_cons rfl (xsub_cons rfl (xsub_cons rfl (xsub_nil))))))) ?_
    exact l_tail hflags C (p0 := 391) dL_law_391 dL_law_393 dL_law_394 dL_law_397 dL_law_399 dL_law_404 dL_law_406 dL_law_409 dL_law_410 dL_law_411 dL_law_412 dL_law_414 dL_law_415 dL_law_416 dL_law_421 (by decide) (bud3 (c := 2) hq hk (by decide)).2 (bud4 (c := 12) hq hns (by decide)).2 (fun _ => e1) (a_hp xCM.symm (next o2 _ _ _ _ _ _ _ jc2 jr2 _ _ (hS9.1 hc) (bud3 (c := 2) hq hk (by decide)).1 (bud4 (c := 12) hq hns (by decide)).1))
  · obtain ⟨rfl, o2, jc2, jr2, -, hF⟩ := hq1
    obtain rfl := hF hc
    refine a_istore (i := 5) C dL_law_373 (by decide) ?_
    refine a_aload_n (i := 2) C dL_law_375 rfl rfl ?_
    refine a_aload_n (i := 0) C dL_law_376 rfl rfl ?_
    refine a_iload (i := 4) C dL_law_377 rfl ?_
    refine a_iconst (v := 1) C dL_law_379 (by decide) ?_
    refine a_iadd C dL_law_380 ?_
    refine a_top (nI (i + 1)) (nI_add i 1) ?_
    refine a_scrGet C hS dL_law_381 (by omega) (by omega) ?_
    refine a_aload_n (i := 0) C dL_law_382 rfl rfl ?_
    refine a_iload (i := 4) C dL_law_383 rfl ?_
    refine a_iconst (v := 2) C dL_law_385 (by decide) ?_
    refine a_iadd C dL_law_386 ?_
    refine a_top (nI (i + 2)) (nI_add i 2) ?_
    refine a_scrGet C hS dL_law_387 (by omega) (by omega) ?_
    refine a_hp xCM ?_
    refine a_callV C dL_law_388 cv_X7_setRate tb1044 (m_X7_setRate hflags hI) rfl rfl xM_0 rfl (Nat.le_of_ble_eq_true rfl) ⟨Nat.le_of_ble_eq_true rfl, Nat.le_of_ble_eq_true rfl⟩ ⟨(bud3 (c := 2) hq hk (by decide)).2, (bud4 (c := 12) hq hns (by decide)).2⟩ (fun _ h => h.elim) xav_no (fun _ _ h => h.elim) (fun r2 hp2 hq2 => ?_)
    obtain ⟨rfl, rfl⟩ := hq2
    refine a_loc [(0, .ref 908), (1, .ref 0), (2, .ref 200), (3, .ref 230), (4, .int (nI i)), (5, .int (((o_setRate nc (xs (i + 1)) (xs (i + 2)) n f g)).2.1 0))] (xsub_cons rfl (xsub_cons rfl (xsub_cons rfl (xsub_cons rfl (xsub_cons rfl (xsub_cons rfl (xsub_nil))))))) ?_
    obtain ⟨eF, eG, e1, hJ2⟩ := hS9.2 hc
    refine l_tail hflags C (p0 := 391) dL_law_391 dL_law_393 dL_law_394 dL_law_397 dL_law_399 dL_law_404 dL_law_406 dL_law_409 dL_law_410 dL_law_411 dL_law_412 dL_law_414 dL_law_415 dL_law_416 dL_law_421 (by decide) (bud3 (c := 2) hq hk (by decide)).2 (bud4 (c := 12) hq hns (by decide)).2 (fun z => absurd z hc) ?_
    refine a_hp (show _ = xC (xM (xOut o2) ((o_setRate nc (xs (i + 1)) (xs (i + 2)) n f g)).2.1 f g) nc ni np nl (((o_setRate nc (xs (i + 1)) (xs (i + 2)) n f g)).2.1 1) f g jc2 jr2 by rw [eF, eG, e1, xCM]) ?_
    exact next o2 _ _ _ _ _ _ _ jc2 jr2 _ _ hJ2 (bud3 (c := 2) hq hk (by decide)).1 (bud4 (c := 12) hq hns (by decide)).1
set_option maxRecDepth 100000 in
set_option maxHeartbeats 4000000 in
theorem lc_pauseReminders {E : xEnv} {l : Launch} {N0 : Nat} {D : va_G} {dT : Nat → ClassId} {ret : Option FieldType} {tab : List ExceptionTableEntry} (hflags : l.stackTraces = false) (C : aC E l N0 D dT cL_law "ReceivablesBookLaw" 7 ret tab room_1 nwLaw) (hN : xNcE E) {Ln i q9 : Nat} {xs : Nat → Int32} (hS : xScr Ln xs E) (hLn : Ln ≤ 2048) (hi : i + 4 ≤ Ln) (hq : q9 < 512) {o9 : Int64} {n : Nat → Int32} {f : Nat → Nat → Int32} {g : Nat → Nat → Int64} {nc ni np nl : Nat} {jc : Nat → Nat → Int32} {jr : Nat → Int64} {k ns : Nat} (hJ : JI n f g nc ni np nl q9) (hk : k ≤ 34 + 8 * q9 + 2 * lGen nl) (hns : ns ≤ 33300 + 100 * q9 + 4 * lCap nl) (next : ∀ (o : Int64) (n : Nat → Int32) (f : Nat → Nat → Int32) (g : Nat → Nat → Int64) (nc ni np nl : Nat) (jc : Nat → Nat → Int32) (jr : Nat → Int64) (k ns : Nat), JI n f g nc ni np nl (q9 + 1) → k ≤ 34 + 8 * (q9 + 1) + 2 * lGen nl → ns ≤ 33300 + 100 * (q9 + 1) + 4 * lCap nl → aW E k ns (xC (xM (xOut o) n f g) nc ni np nl (n 1) f g jc jr) 2412 [(0, .ref 908), (1, .ref 0), (2, .ref 200), (3, .ref 230), (4, .int (nI i))] []) : aW E k ns (xC (xM (xOut o9) n f g) nc ni np nl (n 1) f g jc jr) 424 [(0, .ref 908), (1, .ref 0), (2, .ref 200), (3, .ref 230), (4, .int (nI i))] [] := by
  have hnl := JI_nl hJ (by omega)
  obtain ⟨hI, ⟨t9, ht, ht2, hG⟩, hLl⟩ := id hJ
  obtain ⟨-, -, -, -, hc6, hi24, hp24, hl16⟩ := id hI
  have hB : nc ≤ 6 ∧ ni ≤ 24 ∧ np ≤ 24 ∧ nl ≤ 16000 := ⟨hc6, hi24, hp24, hl16⟩
  have hS9 : sP n f g nc ni np nl q9 (nc) (ni) (np) (nl) ((o_pause nc (xs (i + 1)) (xs (i + 2)) n f g)) := (S_pauseReminders hJ (by omega))
  refine a_aload_n (i := 1) C dL_law_424 rfl rfl ?_
  refine a_aload_n (i := 0) C dL_law_425 rfl rfl ?_
  refine a_iload (i := 4) C dL_law_426 rfl ?_
  refine a_iconst (v := 1) C dL_law_428 (by decide) ?_
  refine a_iadd C dL_law_429 ?_
  refine a_top (nI (i + 1)) (nI_add i 1) ?_
  refine a_scrGet C hS dL_law_430 (by omega) (by omega) ?_
  refine a_aload_n (i := 0) C dL_law_431 rfl rfl ?_
  refine a_iload (i := 4) C dL_law_432 rfl ?_
  refine a_iconst (v := 2) C dL_law_434 (by decide) ?_
  refine a_iadd C dL_law_435 ?_
  refine a_top (nI (i + 2)) (nI_add i 2) ?_
  refine a_scrGet C hS dL_law_436 (by omega) (by omega) ?_
  refine a_aload_n (i := 3) C dL_law_437 rfl rfl ?_
  refine a_callSN (na := 4) C hN dL_law_438 ⟨tb416, tb46, tb417, ⟨by decide, by decide, by decide +kernel⟩⟩ tb415 (w_pauseReminders hflags (o9 := o9) hB ) rfl rfl (Nat.le_of_ble_eq_true rfl) ⟨Nat.le_of_ble_eq_true rfl, Nat.le_of_ble_eq_true rfl⟩ ⟨(bud3 (c := 2) hq hk (by decide)).2, (bud4 (c := 12) hq hns (by decide)).2⟩ (fun _ h => h.elim) xav_no (fun r1 hp1 hq1 => ?_)
  by_cases hc : ((o_pause nc (xs (i + 1)) (xs (i + 2)) n f g)).2.1 0 = 0
  · obtain ⟨rfl, o2, jc2, jr2, hA, -⟩ := hq1
    obtain ⟨e1, rfl⟩ := hA hc
    refine a_istore (i := 5) C dL_law_441 (by decide) ?_
    refine a_aload_n (i := 2) C dL_law_443 rfl rfl ?_
    refine a_aload_n (i := 0) C dL_law_444 rfl rfl ?_
    refine a_iload (i := 4) C dL_law_445 rfl ?_
    refine a_iconst (v := 1) C dL_law_447 (by decide) ?_
    refine a_iadd C dL_law_448 ?_
    refine a_top (nI (i + 1)) (nI_add i 1) ?_
    refine a_scrGet C hS dL_law_449 (by omega) (by omega) ?_
    refine a_aload_n (i := 0) C dL_law_450 rfl rfl ?_
    refine a_iload (i := 4) C dL_law_451 rfl ?_
    refine a_iconst (v := 2) C dL_law_453 (by decide) ?_
    refine a_iadd C dL_law_454 ?_
    refine a_top (nI (i + 2)) (nI_add i 2) ?_
    refine a_scrGet C hS dL_law_455 (by omega) (by omega) ?_
    refine a_hp xCM ?_
    refine a_callV C dL_law_456 cv_X7_pauseReminders tb1048 (m_X7_pauseReminders hflags hI) rfl rfl xM_0 rfl (Nat.le_of_ble_eq_true rfl) ⟨Nat.le_of_ble_eq_true rfl, Nat.le_of_ble_eq_true rfl⟩ ⟨(bud3 (c := 2) hq hk (by decide)).2, (bud4 (c := 12) hq hns (by decide)).2⟩ (fun _ h => h.elim) xav_no (fun _ _ h => h.elim) (fun r2 hp2 hq2 => ?_)
    obtain ⟨rfl, rfl⟩ := hq2
    refine a_loc [(0, .ref 908), (1, .ref 0), (2, .ref 200), (3, .ref 230), (4, .int (nI i)), (5, .int (((o_pause nc (xs (i + 1)) (xs (i + 2)) n f g)).2.1 0))] (xsub_cons rfl (xsub_cons rfl (xsub_cons rfl (xsub_cons rfl (xsub_cons rfl (xsub_cons rfl (xsub_nil))))))) ?_
    exact l_tail hflags C (p0 := 459) dL_law_459 dL_law_461 dL_law_462 dL_law_465 dL_law_467 dL_law_472 dL_law_474 dL_law_477 dL_law_478 dL_law_479 dL_law_480 dL_law_482 dL_law_483 dL_law_484 dL_law_489 (by decide) (bud3 (c := 2) hq hk (by decide)).2 (bud4 (c := 12) hq hns (by decide)).2 (fun _ => e1) (a_hp xCM.symm (next o2 _ _ _ _ _ _ _ jc2 jr2 _ _ (hS9.1 hc) (bud3 (c := 2) hq hk (by decide)).1 (bud4 (c := 12) hq hns (by decide)).1))
  · obtain ⟨rfl, o2, jc2, jr2, -, hF⟩ := hq1
    obtain rfl := hF hc
    refine a_istore (i := 5) C dL_law_441 (by decide) ?_
    refine a_aload_n (i := 2) C dL_law_443 rfl rfl ?_
    refine a_aload_n (i := 0) C dL_law_444 rfl rfl ?_
    refine a_iload (i := 4) C dL_law_445 rfl ?_
    refine a_iconst (v := 1) C dL_law_447 (by decide) ?_
    refine a_iadd C dL_law_448 ?_
    refine a_top (nI (i + 1)) (nI_add i 1) ?_
    refine a_scrGet C hS dL_law_449 (by omega) (by omega) ?_
    refine a_aload_n (i := 0) C dL_law_450 rfl rfl ?_
    refine a_iload (i := 4) C dL_law_451 rfl ?_
    refine a_iconst (v := 2) C dL_law_453 (by decide) ?_
    refine a_iadd C dL_law_454 ?_
    refine a_top (nI (i + 2)) (nI_add i 2) ?_
    refine a_scrGet C hS dL_law_455 (by omega) (by omega) ?_
    refine a_hp xCM ?_
    refine a_callV C dL_law_456 cv_X7_pauseReminders tb1048 (m_X7_pauseReminders hflags hI) rfl rfl xM_0 rfl (Nat.le_of_ble_eq_true rfl) ⟨Nat.le_of_ble_eq_true rfl, Nat.le_of_ble_eq_true rfl⟩ ⟨(bud3 (c := 2) hq hk (by decide)).2, (bud4 (c := 12) hq hns (by decide)).2⟩ (fun _ h => h.elim) xav_no (fun _ _ h => h.elim) (fun r2 hp2 hq2 => ?_)
    obtain ⟨rfl, rfl⟩ := hq2
    refine a_loc [(0, .ref 908), (1, .ref 0), (2, .ref 200), (3, .ref 230), (4, .int (nI i)), (5, .int (((o_pause nc (xs (i + 1)) (xs (i + 2)) n f g)).2.1 0))] (xsub_cons rfl (xsub_cons rfl (xsub_cons rfl (xsub_cons rfl (xsub_cons rfl (xsub_cons rfl (xsub_nil))))))) ?_
    obtain ⟨eF, eG, e1, hJ2⟩ := hS9.2 hc
    refine l_tail hflags C (p0 := 459) dL_law_459 dL_law_461 dL_law_462 dL_law_465 dL_law_467 dL_law_472 dL_law_474 dL_law_477 dL_law_478 dL_law_479 dL_law_480 dL_law_482 dL_law_483 dL_law_484 dL_law_489 (by decide) (bud3 (c := 2) hq hk (by decide)).2 (bud4 (c := 12) hq hns (by decide)).2 (fun z => absurd z hc) ?_
    refine a_hp (show _ = xC (xM (xOut o2) ((o_pause nc (xs (i + 1)) (xs (i + 2)) n f g)).2.1 f g) nc ni np nl (((o_pause nc (xs (i + 1)) (xs (i + 2)) n f g)).2.1 1) f g jc2 jr2 by rw [eF, eG, e1, xCM]) ?_
    exact next o2 _ _ _ _ _ _ _ jc2 jr2 _ _ hJ2 (bud3 (c := 2) hq hk (by decide)).1 (bud4 (c := 12) hq hns (by decide)).1
set_option maxRecDepth 100000 in
set_option maxHeartbeats 4000000 in
theorem lc_today {E : xEnv} {l : Launch} {N0 : Nat} {D : va_G} {dT : Nat → ClassId} {ret : Option FieldType} {tab : List ExceptionTableEntry} (hflags : l.stackTraces = false) (C : aC E l N0 D dT cL_law "ReceivablesBookLaw" 7 ret tab room_1 nwLaw) (hN : xNcE E) {Ln i q9 : Nat} {xs : Nat → Int32} (hS : xScr Ln xs E) (hLn : Ln ≤ 2048) (hi : i + 4 ≤ Ln) (hq : q9 < 512) {o9 : Int64} {n : Nat → Int32} {f : Nat → Nat → Int32} {g : Nat → Nat → Int64} {nc ni np nl : Nat} {jc : Nat → Nat → Int32} {jr : Nat → Int64} {k ns : Nat} (hJ : JI n f g nc ni np nl q9) (hk : k ≤ 34 + 8 * q9 + 2 * lGen nl) (hns : ns ≤ 33300 + 100 * q9 + 4 * lCap nl) (next : ∀ (o : Int64) (n : Nat → Int32) (f : Nat → Nat → Int32) (g : Nat → Nat → Int64) (nc ni np nl : Nat) (jc : Nat → Nat → Int32) (jr : Nat → Int64) (k ns : Nat), JI n f g nc ni np nl (q9 + 1) → k ≤ 34 + 8 * (q9 + 1) + 2 * lGen nl → ns ≤ 33300 + 100 * (q9 + 1) + 4 * lCap nl → aW E k ns (xC (xM (xOut o) n f g) nc ni np nl (n 1) f g jc jr) 2412 [(0, .ref 908), (1, .ref 0), (2, .ref 200), (3, .ref 230), (4, .int (nI i))] []) : aW E k ns (xC (xM (xOut o9) n f g) nc ni np nl (n 1) f g jc jr) 492 [(0, .ref 908), (1, .ref 0), (2, .ref 200), (3, .ref 230), (4, .int (nI i))] [] := by
  have hnl := JI_nl hJ (by omega)
  obtain ⟨hI, ⟨t9, ht, ht2, hG⟩, hLl⟩ := id hJ
  obtain ⟨-, -, -, -, hc6, hi24, hp24, hl16⟩ := id hI
  have hB : nc ≤ 6 ∧ ni ≤ 24 ∧ np ≤ 24 ∧ nl ≤ 16000 := ⟨hc6, hi24, hp24, hl16⟩
  refine a_aload_n (i := 1) C dL_law_492 rfl rfl ?_
  refine a_callV C dL_law_493 cv_X6_today tb158 (m_X6_today hflags (h := xM (xOut o9) n f g) hB hI) rfl rfl xC_0 rfl (Nat.le_of_ble_eq_true rfl) ⟨Nat.le_of_ble_eq_true rfl, Nat.le_of_ble_eq_true rfl⟩ ⟨(bud3 (c := 0) hq hk (by decide)).2, (bud4 (c := 0) hq hns (by decide)).2⟩ (fun _ h => h.elim) xav_no (fun _ _ h => h.elim) (fun r1 hp1 hq1 => ?_)
  obtain ⟨-, rfl, jc2, jr2, rfl⟩ := hq1
  refine a_aload_n (i := 2) C dL_law_496 rfl rfl ?_
  refine a_hp xCM ?_
  refine a_callV C dL_law_497 cv_X7_today tb1052 (m_X7_today hflags) rfl rfl xM_0 rfl (Nat.le_of_ble_eq_true rfl) ⟨Nat.le_of_ble_eq_true rfl, Nat.le_of_ble_eq_true rfl⟩ ⟨(bud3 (c := 0) hq hk (by decide)).2, (bud4 (c := 0) hq hns (by decide)).2⟩ (fun _ h => h.elim) xav_no (fun _ _ h => h.elim) (fun r2 hp2 hq2 => ?_)
  obtain ⟨rfl, rfl⟩ := hq2
  refine a_icmp_eq (tgt := 2412) C dL_law_500 (by decide) (fun _ => ?_) (fun z => absurd rfl z)
  refine a_hp xCM.symm ?_
  exact next o9 _ _ _ _ _ _ _ jc2 jr2 _ _ (JI_0 (w := 0) hJ) (bud3 (c := 0) hq hk (by decide)).1 (bud4 (c := 0) hq hns (by decide)).1
set_option maxRecDepth 100000 in
set_option maxHeartbeats 4000000 in
theorem lc_passDays {E : xEnv} {l : Launch} {N0 : Nat} {D : va_G} {dT : Nat → ClassId} {ret : Option FieldType} {tab : List ExceptionTableEntry} (hflags : l.stackTraces = false) (C : aC E l N0 D dT cL_law "ReceivablesBookLaw" 7 ret tab room_1 nwLaw) (hN : xNcE E) {Ln i q9 : Nat} {xs : Nat → Int32} (hS : xScr Ln xs E) (hLn : Ln ≤ 2048) (hi : i + 4 ≤ Ln) (hq : q9 < 512) {o9 : Int64} {n : Nat → Int32} {f : Nat → Nat → Int32} {g : Nat → Nat → Int64} {nc ni np nl : Nat} {jc : Nat → Nat → Int32} {jr : Nat → Int64} {k ns : Nat} (hJ : JI n f g nc ni np nl q9) (hk : k ≤ 34 + 8 * q9 + 2 * lGen nl) (hns : ns ≤ 33300 + 100 * q9 + 4 * lCap nl) (next : ∀ (o : Int64) (n : Nat → Int32) (f : Nat → Nat → Int32) (g : Nat → Nat → Int64) (nc ni np nl : Nat) (jc : Nat → Nat → Int32) (jr : Nat → Int64) (k ns : Nat), JI n f g nc ni np nl (q9 + 1) → k ≤ 34 + 8 * (q9 + 1) + 2 * lGen nl → ns ≤ 33300 + 100 * (q9 + 1) + 4 * lCap nl → aW E k ns (xC (xM (xOut o) n f g) nc ni np nl (n 1) f g jc jr) 2412 [(0, .ref 908), (1, .ref 0), (2, .ref 200), (3, .ref 230), (4, .int (nI i))] []) : aW E k ns (xC (xM (xOut o9) n f g) nc ni np nl (n 1) f g jc jr) 505 [(0, .ref 908), (1, .ref 0), (2, .ref 200), (3, .ref 230), (4, .int (nI i))] [] := by
  have hnl := JI_nl hJ (by omega)
  obtain ⟨hI, ⟨t9, ht, ht2, hG⟩, hLl⟩ := id hJ
  obtain ⟨-, -, -, -, hc6, hi24, hp24, hl16⟩ := id hI
  have hB : nc ≤ 6 ∧ ni ≤ 24 ∧ np ≤ 24 ∧ nl ≤ 16000 := ⟨hc6, hi24, hp24, hl16⟩
  have hO6 : ∀ i, i < ni → ∃ k, k < 6 ∧ f 10 i = nI k := fun i hi => by
    obtain ⟨k, k1, k2⟩ := hG.1.1 i hi
    exact ⟨k, by omega, k2⟩
  have hOw := xow_lt hG.1.1 hc6
  have hWx := hG.2.2.1.1
  have hS9 : sP n f g nc ni np nl q9 (nc) (ni) (np) (nl) ((o_passDays ni (xs (i + 1)) n f g)) := (S_passDays hJ (by omega))
  refine a_aload_n (i := 1) C dL_law_505 rfl rfl ?_
  refine a_aload_n (i := 0) C dL_law_506 rfl rfl ?_
  refine a_iload (i := 4) C dL_law_507 rfl ?_
  refine a_iconst (v := 1) C dL_law_509 (by decide) ?_
  refine a_iadd C dL_law_510 ?_
  refine a_top (nI (i + 1)) (nI_add i 1) ?_
  refine a_scrGet C hS dL_law_511 (by omega) (by omega) ?_
  refine a_aload_n (i := 3) C dL_law_512 rfl rfl ?_
  refine a_callSN (na := 3) C hN dL_law_513 ⟨tb423, tb46, tb424, ⟨by decide, by decide, by decide +kernel⟩⟩ tb422 (w_passDays hflags (o9 := o9) hB hOw hWx ht ht2) rfl rfl (Nat.le_of_ble_eq_true rfl) ⟨Nat.le_of_ble_eq_true rfl, Nat.le_of_ble_eq_true rfl⟩ ⟨(bud3 (c := 2) hq hk (by decide)).2, (bud4 (c := 12) hq hns (by decide)).2⟩ (fun _ h => h.elim) xav_no (fun r1 hp1 hq1 => ?_)
  by_cases hc : ((o_passDays ni (xs (i + 1)) n f g)).2.1 0 = 0
  · obtain ⟨rfl, o2, jc2, jr2, hA, -⟩ := hq1
    obtain ⟨e1, rfl⟩ := hA hc
    refine a_istore (i := 5) C dL_law_516 (by decide) ?_
    refine a_aload_n (i := 2) C dL_law_518 rfl rfl ?_
    refine a_aload_n (i := 0) C dL_law_519 rfl rfl ?_
    refine a_iload (i := 4) C dL_law_520 rfl ?_
    refine a_iconst (v := 1) C dL_law_522 (by decide) ?_
    refine a_iadd C dL_law_523 ?_
    refine a_top (nI (i + 1)) (nI_add i 1) ?_
    refine a_scrGet C hS dL_law_524 (by omega) (by omega) ?_
    refine a_hp xCM ?_
    refine a_callV C dL_law_525 cv_X7_passDays tb1060 (m_X7_passDays hflags hI hO6 ht ht2) rfl rfl xM_0 rfl (Nat.le_of_ble_eq_true rfl) ⟨Nat.le_of_ble_eq_true rfl, Nat.le_of_ble_eq_true rfl⟩ ⟨(bud3 (c := 2) hq hk (by decide)).2, (bud4 (c := 12) hq hns (by decide)).2⟩ (fun _ h => h.elim) xav_no (fun _ _ h => h.elim) (fun r2 hp2 hq2 => ?_)
    obtain ⟨rfl, rfl⟩ := hq2
    refine a_loc [(0, .ref 908), (1, .ref 0), (2, .ref 200), (3, .ref 230), (4, .int (nI i)), (5, .int (((o_passDays ni (xs (i + 1)) n f g)).2.1 0))] (xsub_cons rfl (xsub_cons rfl (xsub_cons rfl (xsub_cons rfl (xsub_cons rfl (xsub_cons rfl (xsub_nil))))))) ?_
    exact l_tail hflags C (p0 := 528) dL_law_528 dL_law_530 dL_law_531 dL_law_534 dL_law_536 dL_law_541 dL_law_543 dL_law_546 dL_law_547 dL_law_548 dL_law_549 dL_law_551 dL_law_552 dL_law_553 dL_law_558 (by decide) (bud3 (c := 2) hq hk (by decide)).2 (bud4 (c := 12) hq hns (by decide)).2 (fun _ => e1) (a_hp xCM.symm (next o2 _ _ _ _ _ _ _ jc2 jr2 _ _ (hS9.1 hc) (bud3 (c := 2) hq hk (by decide)).1 (bud4 (c := 12) hq hns (by decide)).1))
  · obtain ⟨rfl, o2, jc2, jr2, -, hF⟩ := hq1
    obtain rfl := hF hc
    refine a_istore (i := 5) C dL_law_516 (by decide) ?_
    refine a_aload_n (i := 2) C dL_law_518 rfl rfl ?_
    refine a_aload_n (i := 0) C dL_law_519 rfl rfl ?_
    refine a_iload (i := 4) C dL_law_520 rfl ?_
    refine a_iconst (v := 1) C dL_law_522 (by decide) ?_
    refine a_iadd C dL_law_523 ?_
    refine a_top (nI (i + 1)) (nI_add i 1) ?_
    refine a_scrGet C hS dL_law_524 (by omega) (by omega) ?_
    refine a_hp xCM ?_
    refine a_callV C dL_law_525 cv_X7_passDays tb1060 (m_X7_passDays hflags hI hO6 ht ht2) rfl rfl xM_0 rfl (Nat.le_of_ble_eq_true rfl) ⟨Nat.le_of_ble_eq_true rfl, Nat.le_of_ble_eq_true rfl⟩ ⟨(bud3 (c := 2) hq hk (by decide)).2, (bud4 (c := 12) hq hns (by decide)).2⟩ (fun _ h => h.elim) xav_no (fun _ _ h => h.elim) (fun r2 hp2 hq2 => ?_)
    obtain ⟨rfl, rfl⟩ := hq2
    refine a_loc [(0, .ref 908), (1, .ref 0), (2, .ref 200), (3, .ref 230), (4, .int (nI i)), (5, .int (((o_passDays ni (xs (i + 1)) n f g)).2.1 0))] (xsub_cons rfl (xsub_cons rfl (xsub_cons rfl (xsub_cons rfl (xsub_cons rfl (xsub_cons rfl (xsub_nil))))))) ?_
    obtain ⟨eF, eG, e1, hJ2⟩ := hS9.2 hc
    refine l_tail hflags C (p0 := 528) dL_law_528 dL_law_530 dL_law_531 dL_law_534 dL_law_536 dL_law_541 dL_law_543 dL_law_546 dL_law_547 dL_law_548 dL_law_549 dL_law_551 dL_law_552 dL_law_553 dL_law_558 (by decide) (bud3 (c := 2) hq hk (by decide)).2 (bud4 (c := 12) hq hns (by decide)).2 (fun z => absurd z hc) ?_
    refine a_hp (show _ = xC (xM (xOut o2) ((o_passDays ni (xs (i + 1)) n f g)).2.1 f g) nc ni np nl (((o_passDays ni (xs (i + 1)) n f g)).2.1 1) f g jc2 jr2 by rw [eF, eG, e1, xCM]) ?_
    exact next o2 _ _ _ _ _ _ _ jc2 jr2 _ _ hJ2 (bud3 (c := 2) hq hk (by decide)).1 (bud4 (c := 12) hq hns (by decide)).1
set_option maxRecDepth 100000 in
set_option maxHeartbeats 4000000 in
theorem lc_countDays {E : xEnv} {l : Launch} {N0 : Nat} {D : va_G} {dT : Nat → ClassId} {ret : Option FieldType} {tab : List ExceptionTableEntry} (hflags : l.stackTraces = false) (C : aC E l N0 D dT cL_law "ReceivablesBookLaw" 7 ret tab room_1 nwLaw) (hN : xNcE E) {Ln i q9 : Nat} {xs : Nat → Int32} (hS : xScr Ln xs E) (hLn : Ln ≤ 2048) (hi : i + 4 ≤ Ln) (hq : q9 < 512) {o9 : Int64} {n : Nat → Int32} {f : Nat → Nat → Int32} {g : Nat → Nat → Int64} {nc ni np nl : Nat} {jc : Nat → Nat → Int32} {jr : Nat → Int64} {k ns : Nat} (hJ : JI n f g nc ni np nl q9) (hk : k ≤ 34 + 8 * q9 + 2 * lGen nl) (hns : ns ≤ 33300 + 100 * q9 + 4 * lCap nl) (next : ∀ (o : Int64) (n : Nat → Int32) (f : Nat → Nat → Int32) (g : Nat → Nat → Int64) (nc ni np nl : Nat) (jc : Nat → Nat → Int32) (jr : Nat → Int64) (k ns : Nat), JI n f g nc ni np nl (q9 + 1) → k ≤ 34 + 8 * (q9 + 1) + 2 * lGen nl → ns ≤ 33300 + 100 * (q9 + 1) + 4 * lCap nl → aW E k ns (xC (xM (xOut o) n f g) nc ni np nl (n 1) f g jc jr) 2412 [(0, .ref 908), (1, .ref 0), (2, .ref 200), (3, .ref 230), (4, .int (nI i))] []) : aW E k ns (xC (xM (xOut o9) n f g) nc ni np nl (n 1) f g jc jr) 561 [(0, .ref 908), (1, .ref 0), (2, .ref 200), (3, .ref 230), (4, .int (nI i))] [] := by
  have hnl := JI_nl hJ (by omega)
  obtain ⟨hI, ⟨t9, ht, ht2, hG⟩, hLl⟩ := id hJ
  obtain ⟨-, -, -, -, hc6, hi24, hp24, hl16⟩ := id hI
  have hB : nc ≤ 6 ∧ ni ≤ 24 ∧ np ≤ 24 ∧ nl ≤ 16000 := ⟨hc6, hi24, hp24, hl16⟩
  have hS9 : sP n f g nc ni np nl q9 (nc) (ni) (np) (nl) ((oRd (xokR (xs (i + 1)) ∧ (0 ≤ (xs (i + 2)) ∧ (xs (i + 2)) ≤ 1460) ∧ ((xs (i + 2)) ≤ (xs (i + 3)) ∧ (xs (i + 3)) ≤ 1460)) (xbt (xs (i + 1)) (xs (i + 2)).toNatClampNeg (xs (i + 3)).toNatClampNeg) n f g)) := (sP_rd hJ)
  refine a_aload_n (i := 1) C dL_law_561 rfl rfl ?_
  refine a_aload_n (i := 0) C dL_law_562 rfl rfl ?_
  refine a_iload (i := 4) C dL_law_563 rfl ?_
  refine a_iconst (v := 1) C dL_law_565 (by decide) ?_
  refine a_iadd C dL_law_566 ?_
  refine a_top (nI (i + 1)) (nI_add i 1) ?_
  refine a_scrGet C hS dL_law_567 (by omega) (by omega) ?_
  refine a_aload_n (i := 0) C dL_law_568 rfl rfl ?_
  refine a_iload (i := 4) C dL_law_569 rfl ?_
  refine a_iconst (v := 2) C dL_law_571 (by decide) ?_
  refine a_iadd C dL_law_572 ?_
  refine a_top (nI (i + 2)) (nI_add i 2) ?_
  refine a_scrGet C hS dL_law_573 (by omega) (by omega) ?_
  refine a_aload_n (i := 0) C dL_law_574 rfl rfl ?_
  refine a_iload (i := 4) C dL_law_575 rfl ?_
  refine a_iconst (v := 3) C dL_law_577 (by decide) ?_
  refine a_iadd C dL_law_578 ?_
  refine a_top (nI (i + 3)) (nI_add i 3) ?_
  refine a_scrGet C hS dL_law_579 (by omega) (by omega) ?_
  refine a_aload_n (i := 3) C dL_law_580 rfl rfl ?_
  refine a_callSN (na := 5) C hN dL_law_581 ⟨tb476, tb46, tb477, ⟨by decide, by decide, by decide +kernel⟩⟩ tb475 (w_countDays hflags (o9 := o9) hB ) rfl rfl (Nat.le_of_ble_eq_true rfl) ⟨Nat.le_of_ble_eq_true rfl, Nat.le_of_ble_eq_true rfl⟩ ⟨(bud3 (c := 3) hq hk (by decide)).2, (bud4 (c := 18) hq hns (by decide)).2⟩ (fun _ h => h.elim) xav_no (fun r1 hp1 hq1 => ?_)
  by_cases hc : ((oRd (xokR (xs (i + 1)) ∧ (0 ≤ (xs (i + 2)) ∧ (xs (i + 2)) ≤ 1460) ∧ ((xs (i + 2)) ≤ (xs (i + 3)) ∧ (xs (i + 3)) ≤ 1460)) (xbt (xs (i + 1)) (xs (i + 2)).toNatClampNeg (xs (i + 3)).toNatClampNeg) n f g)).2.1 0 = 0
  · obtain ⟨rfl, o2, jc2, jr2, hA, -⟩ := hq1
    obtain ⟨e1, rfl⟩ := hA hc
    refine a_istore (i := 5) C dL_law_584 (by decide) ?_
    refine a_aload_n (i := 2) C dL_law_586 rfl rfl ?_
    refine a_aload_n (i := 0) C dL_law_587 rfl rfl ?_
    refine a_iload (i := 4) C dL_law_588 rfl ?_
    refine a_iconst (v := 1) C dL_law_590 (by decide) ?_
    refine a_iadd C dL_law_591 ?_
    refine a_top (nI (i + 1)) (nI_add i 1) ?_
    refine a_scrGet C hS dL_law_592 (by omega) (by omega) ?_
    refine a_aload_n (i := 0) C dL_law_593 rfl rfl ?_
    refine a_iload (i := 4) C dL_law_594 rfl ?_
    refine a_iconst (v := 2) C dL_law_596 (by decide) ?_
    refine a_iadd C dL_law_597 ?_
    refine a_top (nI (i + 2)) (nI_add i 2) ?_
    refine a_scrGet C hS dL_law_598 (by omega) (by omega) ?_
    refine a_aload_n (i := 0) C dL_law_599 rfl rfl ?_
    refine a_iload (i := 4) C dL_law_600 rfl ?_
    refine a_iconst (v := 3) C dL_law_602 (by decide) ?_
    refine a_iadd C dL_law_603 ?_
    refine a_top (nI (i + 3)) (nI_add i 3) ?_
    refine a_scrGet C hS dL_law_604 (by omega) (by omega) ?_
    refine a_hp xCM ?_
    refine a_callV C dL_law_605 cv_X7_countDays tb1088 (m_X7_countDays hflags ) rfl rfl xM_0 rfl (Nat.le_of_ble_eq_true rfl) ⟨Nat.le_of_ble_eq_true rfl, Nat.le_of_ble_eq_true rfl⟩ ⟨(bud3 (c := 3) hq hk (by decide)).2, (bud4 (c := 18) hq hns (by decide)).2⟩ (fun _ h => h.elim) xav_no (fun _ _ h => h.elim) (fun r2 hp2 hq2 => ?_)
    obtain ⟨rfl, rfl⟩ := hq2
    refine a_loc [(0, .ref 908), (1, .ref 0), (2, .ref 200), (3, .ref 230), (4, .int (nI i)), (5, .int (((oRd (xokR (xs (i + 1)) ∧ (0 ≤ (xs (i + 2)) ∧ (xs (i + 2)) ≤ 1460) ∧ ((xs (i + 2)) ≤ (xs (i + 3)) ∧ (xs (i + 3)) ≤ 1460)) (xbt (xs (i + 1)) (xs (i + 2)).toNatClampNeg (xs (i + 3)).toNatClampNeg) n f g)).2.1 0))] (xsub_cons rfl (xsub_cons rfl (xsub_cons rfl (xsub_cons rfl (xsub_cons rfl (xsub_cons rfl (xsub_nil))))))) ?_
    exact l_tail hflags C (p0 := 608) dL_law_608 dL_law_610 dL_law_611 dL_law_614 dL_law_616 dL_law_621 dL_law_623 dL_law_626 dL_law_627 dL_law_628 dL_law_629 dL_law_631 dL_law_632 dL_law_633 dL_law_638 (by decide) (bud3 (c := 3) hq hk (by decide)).2 (bud4 (c := 18) hq hns (by decide)).2 (fun _ => e1) (a_hp xCM.symm (next o2 _ _ _ _ _ _ _ jc2 jr2 _ _ (hS9.1 hc) (bud3 (c := 3) hq hk (by decide)).1 (bud4 (c := 18) hq hns (by decide)).1))
  · obtain ⟨rfl, o2, jc2, jr2, -, hF⟩ := hq1
    obtain rfl := hF hc
    refine a_istore (i := 5) C dL_law_584 (by decide) ?_
    refine a_aload_n (i := 2) C dL_law_586 rfl rfl ?_
    refine a_aload_n (i := 0) C dL_law_587 rfl rfl ?_
    refine a_iload (i := 4) C dL_law_588 rfl ?_
    refine a_iconst (v := 1) C dL_law_590 (by decide) ?_
    refine a_iadd C dL_law_591 ?_
    refine a_top (nI (i + 1)) (nI_add i 1) ?_
    refine a_scrGet C hS dL_law_592 (by omega) (by omega) ?_
    refine a_aload_n (i := 0) C dL_law_593 rfl rfl ?_
    refine a_iload (i := 4) C dL_law_594 rfl ?_
    refine a_iconst (v := 2) C dL_law_596 (by decide) ?_
    refine a_iadd C dL_law_597 ?_
    refine a_top (nI (i + 2)) (nI_add i 2) ?_
    refine a_scrGet C hS dL_law_598 (by omega) (by omega) ?_
    refine a_aload_n (i := 0) C dL_law_599 rfl rfl ?_
    refine a_iload (i := 4) C dL_law_600 rfl ?_
    refine a_iconst (v := 3) C dL_law_602 (by decide) ?_
    refine a_iadd C dL_law_603 ?_
    refine a_top (nI (i + 3)) (nI_add i 3) ?_
    refine a_scrGet C hS dL_law_604 (by omega) (by omega) ?_
    refine a_hp xCM ?_
    refine a_callV C dL_law_605 cv_X7_countDays tb1088 (m_X7_countDays hflags ) rfl rfl xM_0 rfl (Nat.le_of_ble_eq_true rfl) ⟨Nat.le_of_ble_eq_true rfl, Nat.le_of_ble_eq_true rfl⟩ ⟨(bud3 (c := 3) hq hk (by decide)).2, (bud4 (c := 18) hq hns (by decide)).2⟩ (fun _ h => h.elim) xav_no (fun _ _ h => h.elim) (fun r2 hp2 hq2 => ?_)
    obtain ⟨rfl, rfl⟩ := hq2
    refine a_loc [(0, .ref 908), (1, .ref 0), (2, .ref 200), (3, .ref 230), (4, .int (nI i)), (5, .int (((oRd (xokR (xs (i + 1)) ∧ (0 ≤ (xs (i + 2)) ∧ (xs (i + 2)) ≤ 1460) ∧ ((xs (i + 2)) ≤ (xs (i + 3)) ∧ (xs (i + 3)) ≤ 1460)) (xbt (xs (i + 1)) (xs (i + 2)).toNatClampNeg (xs (i + 3)).toNatClampNeg) n f g)).2.1 0))] (xsub_cons rfl (xsub_cons rfl (xsub_cons rfl (xsub_cons rfl (xsub_cons rfl (xsub_cons rfl (xsub_nil))))))) ?_
    obtain ⟨eF, eG, e1, hJ2⟩ := hS9.2 hc
    refine l_tail hflags C (p0 := 608) dL_law_608 dL_law_610 dL_law_611 dL_law_614 dL_law_616 dL_law_621 dL_law_623 dL_law_626 dL_law_627 dL_law_628 dL_law_629 dL_law_631 dL_law_632 dL_law_633 dL_law_638 (by decide) (bud3 (c := 3) hq hk (by decide)).2 (bud4 (c := 18) hq hns (by decide)).2 (fun z => absurd z hc) ?_
    refine a_hp (show _ = xC (xM (xOut o2) ((oRd (xokR (xs (i + 1)) ∧ (0 ≤ (xs (i + 2)) ∧ (xs (i + 2)) ≤ 1460) ∧ ((xs (i + 2)) ≤ (xs (i + 3)) ∧ (xs (i + 3)) ≤ 1460)) (xbt (xs (i + 1)) (xs (i + 2)).toNatClampNeg (xs (i + 3)).toNatClampNeg) n f g)).2.1 f g) nc ni np nl (((oRd (xokR (xs (i + 1)) ∧ (0 ≤ (xs (i + 2)) ∧ (xs (i + 2)) ≤ 1460) ∧ ((xs (i + 2)) ≤ (xs (i + 3)) ∧ (xs (i + 3)) ≤ 1460)) (xbt (xs (i + 1)) (xs (i + 2)).toNatClampNeg (xs (i + 3)).toNatClampNeg) n f g)).2.1 1) f g jc2 jr2 by rw [eF, eG, e1, xCM]) ?_
    exact next o2 _ _ _ _ _ _ _ jc2 jr2 _ _ hJ2 (bud3 (c := 3) hq hk (by decide)).1 (bud4 (c := 18) hq hns (by decide)).1
set_option maxRecDepth 100000 in
set_option maxHeartbeats 4000000 in
theorem lc_postInvoice {E : xEnv} {l : Launch} {N0 : Nat} {D : va_G} {dT : Nat → ClassId} {ret : Option FieldType} {tab : List ExceptionTableEntry} (hflags : l.stackTraces = false) (C : aC E l N0 D dT cL_law "ReceivablesBookLaw" 7 ret tab room_1 nwLaw) (hN : xNcE E) {Ln i q9 : Nat} {xs : Nat → Int32} (hS : xScr Ln xs E) (hLn : Ln ≤ 2048) (hi : i + 4 ≤ Ln) (hq : q9 < 512) {o9 : Int64} {n : Nat → Int32} {f : Nat → Nat → Int32} {g : Nat → Nat → Int64} {nc ni np nl : Nat} {jc : Nat → Nat → Int32} {jr : Nat → Int64} {k ns : Nat} (hJ : JI n f g nc ni np nl q9) (hk : k ≤ 34 + 8 * q9 + 2 * lGen nl) (hns : ns ≤ 33300 + 100 * q9 + 4 * lCap nl) (next : ∀ (o : Int64) (n : Nat → Int32) (f : Nat → Nat → Int32) (g : Nat → Nat → Int64) (nc ni np nl : Nat) (jc : Nat → Nat → Int32) (jr : Nat → Int64) (k ns : Nat), JI n f g nc ni np nl (q9 + 1) → k ≤ 34 + 8 * (q9 + 1) + 2 * lGen nl → ns ≤ 33300 + 100 * (q9 + 1) + 4 * lCap nl → aW E k ns (xC (xM (xOut o) n f g) nc ni np nl (n 1) f g jc jr) 2412 [(0, .ref 908), (1, .ref 0), (2, .ref 200), (3, .ref 230), (4, .int (nI i))] []) : aW E k ns (xC (xM (xOut o9) n f g) nc ni np nl (n 1) f g jc jr) 641 [(0, .ref 908), (1, .ref 0), (2, .ref 200), (3, .ref 230), (4, .int (nI i))] [] := by
  have hnl := JI_nl hJ (by omega)
  obtain ⟨hI, ⟨t9, ht, ht2, hG⟩, hLl⟩ := id hJ
  obtain ⟨-, -, -, -, hc6, hi24, hp24, hl16⟩ := id hI
  have hB : nc ≤ 6 ∧ ni ≤ 24 ∧ np ≤ 24 ∧ nl ≤ 16000 := ⟨hc6, hi24, hp24, hl16⟩
  have hOe := hG.1.1
  have hPe := hG.1.2.1
  obtain ⟨z14, z17, z18, z15⟩ := hG.2.1.1 ni (Nat.le_refl ni)
  have hS9 : sP n f g nc ni np nl q9 (nc) ((ni + 1)) (np) ((mWl nl (xs (i + 2)))) ((o_postInvoice nc ni nl (xs (i + 1)) (xs (i + 2)) (xs (i + 3)) n f g)) := (S_postInvoice hJ (by omega))
  by_cases hc : ((o_postInvoice nc ni nl (xs (i + 1)) (xs (i + 2)) (xs (i + 3)) n f g)).2.1 0 = 0
  · have hle1 : nl ≤ (mWl nl (xs (i + 2))) := mWl_1.2
    have hle2 := (hS9.1 hc).1.2.2.2.2.2.2.2
    refine a_aload_n (i := 1) C dL_law_641 rfl rfl ?_
    refine a_aload_n (i := 0) C dL_law_642 rfl rfl ?_
    refine a_iload (i := 4) C dL_law_643 rfl ?_
    refine a_iconst (v := 1) C dL_law_645 (by decide) ?_
    refine a_iadd C dL_law_646 ?_
    refine a_top (nI (i + 1)) (nI_add i 1) ?_
    refine a_scrGet C hS dL_law_647 (by omega) (by omega) ?_
    refine a_aload_n (i := 0) C dL_law_648 rfl rfl ?_
    refine a_iload (i := 4) C dL_law_649 rfl ?_
    refine a_iconst (v := 2) C dL_law_651 (by decide) ?_
    refine a_iadd C dL_law_652 ?_
    refine a_top (nI (i + 2)) (nI_add i 2) ?_
    refine a_scrGet C hS dL_law_653 (by omega) (by omega) ?_
    refine a_aload_n (i := 0) C dL_law_654 rfl rfl ?_
    refine a_iload (i := 4) C dL_law_655 rfl ?_
    refine a_iconst (v := 3) C dL_law_657 (by decide) ?_
    refine a_iadd C dL_law_658 ?_
    refine a_top (nI (i + 3)) (nI_add i 3) ?_
    refine a_scrGet C hS dL_law_659 (by omega) (by omega) ?_
    refine a_aload_n (i := 3) C dL_law_660 rfl rfl ?_
    refine a_callSN (na := 5) C hN dL_law_661 ⟨tb484, tb46, tb485, ⟨by decide, by decide, by decide +kernel⟩⟩ tb483 (w_postInvoice hflags (o9 := o9) hB z14 z17 z18 z15 (by omega) hOe hPe) rfl rfl (Nat.le_of_ble_eq_true rfl) ⟨Nat.le_of_ble_eq_true rfl, Nat.le_of_ble_eq_true rfl⟩ ⟨(bud1 (c := 6) hq hk (by decide) hle1 hle2).2, (bud2 (c := 67) hq hns (by decide) hle1 hle2).2⟩ (fun j h => xnwB_lt h) ⟨fun q hq j hj => (by simp only [List.mem_cons, List.not_mem_nil, or_false] at hq; rcases hq with rfl | rfl | rfl | rfl | rfl <;> first | exact Value.noConfusion hj | exact xnwB_law (by decide) (Value.ref.inj hj)), fun v hv => nomatch hv⟩ (fun r1 hp1 hq1 => ?_)
    obtain ⟨rfl, o2, jc2, jr2, hA, -⟩ := hq1
    obtain ⟨e1, rfl⟩ := hA hc
    refine a_istore (i := 5) C dL_law_664 (by decide) ?_
    refine a_aload_n (i := 2) C dL_law_666 rfl rfl ?_
    refine a_aload_n (i := 0) C dL_law_667 rfl rfl ?_
    refine a_iload (i := 4) C dL_law_668 rfl ?_
    refine a_iconst (v := 1) C dL_law_670 (by decide) ?_
    refine a_iadd C dL_law_671 ?_
    refine a_top (nI (i + 1)) (nI_add i 1) ?_
    refine a_scrGet C hS dL_law_672 (by omega) (by omega) ?_
    refine a_aload_n (i := 0) C dL_law_673 rfl rfl ?_
    refine a_iload (i := 4) C dL_law_674 rfl ?_
    refine a_iconst (v := 2) C dL_law_676 (by decide) ?_
    refine a_iadd C dL_law_677 ?_
    refine a_top (nI (i + 2)) (nI_add i 2) ?_
    refine a_scrGet C hS dL_law_678 (by omega) (by omega) ?_
    refine a_aload_n (i := 0) C dL_law_679 rfl rfl ?_
    refine a_iload (i := 4) C dL_law_680 rfl ?_
    refine a_iconst (v := 3) C dL_law_682 (by decide) ?_
    refine a_iadd C dL_law_683 ?_
    refine a_top (nI (i + 3)) (nI_add i 3) ?_
    refine a_scrGet C hS dL_law_684 (by omega) (by omega) ?_
    refine a_hp xCM ?_
    refine a_callV C dL_law_685 cv_X7_postInvoice tb1092 (m_X7_postInvoice hflags hI (by omega)) rfl rfl xM_0 rfl (Nat.le_of_ble_eq_true rfl) ⟨Nat.le_of_ble_eq_true rfl, Nat.le_of_ble_eq_true rfl⟩ ⟨(bud1 (c := 6) hq hk (by decide) hle1 hle2).2, (bud2 (c := 67) hq hns (by decide) hle1 hle2).2⟩ (fun _ h => h.elim) xav_no (fun _ _ h => h.elim) (fun r2 hp2 hq2 => ?_)
    obtain ⟨rfl, rfl⟩ := hq2
    refine a_loc [(0, .ref 908), (1, .ref 0), (2, .ref 200), (3, .ref 230), (4, .int (nI i)), (5, .int (((o_postInvoice nc ni nl (xs (i + 1)) (xs (i + 2)) (xs (i + 3)) n f g)).2.1 0))] (xsub_cons rfl (xsub_cons rfl (xsub_cons rfl (xsub_cons rfl (xsub_cons rfl (xsub_cons rfl (xsub_nil))))))) ?_
    exact l_tail hflags C (p0 := 688) dL_law_688 dL_law_690 dL_law_691 dL_law_694 dL_law_696 dL_law_701 dL_law_703 dL_law_706 dL_law_707 dL_law_708 dL_law_709 dL_law_711 dL_law_712 dL_law_713 dL_law_718 (by decide) (bud1 (c := 6) hq hk (by decide) hle1 hle2).2 (bud2 (c := 67) hq hns (by decide) hle1 hle2).2 (fun _ => e1) (a_hp xCM.symm (next o2 _ _ _ _ _ _ _ jc2 jr2 _ _ (hS9.1 hc) (bud1 (c := 6) hq hk (by decide) hle1 hle2).1 (bud2 (c := 67) hq hns (by decide) hle1 hle2).1))
  · refine a_aload_n (i := 1) C dL_law_641 rfl rfl ?_
    refine a_aload_n (i := 0) C dL_law_642 rfl rfl ?_
    refine a_iload (i := 4) C dL_law_643 rfl ?_
    refine a_iconst (v := 1) C dL_law_645 (by decide) ?_
    refine a_iadd C dL_law_646 ?_
    refine a_top (nI (i + 1)) (nI_add i 1) ?_
    refine a_scrGet C hS dL_law_647 (by omega) (by omega) ?_
    refine a_aload_n (i := 0) C dL_law_648 rfl rfl ?_
    refine a_iload (i := 4) C dL_law_649 rfl ?_
    refine a_iconst (v := 2) C dL_law_651 (by decide) ?_
    refine a_iadd C dL_law_652 ?_
    refine a_top (nI (i + 2)) (nI_add i 2) ?_
    refine a_scrGet C hS dL_law_653 (by omega) (by omega) ?_
    refine a_aload_n (i := 0) C dL_law_654 rfl rfl ?_
    refine a_iload (i := 4) C dL_law_655 rfl ?_
    refine a_iconst (v := 3) C dL_law_657 (by decide) ?_
    refine a_iadd C dL_law_658 ?_
    refine a_top (nI (i + 3)) (nI_add i 3) ?_
    refine a_scrGet C hS dL_law_659 (by omega) (by omega) ?_
    refine a_aload_n (i := 3) C dL_law_660 rfl rfl ?_
    refine a_callSN (na := 5) C hN dL_law_661 ⟨tb484, tb46, tb485, ⟨by decide, by decide, by decide +kernel⟩⟩ tb483 (n_postInvoice hflags (o9 := o9) hB hc) rfl rfl (Nat.le_of_ble_eq_true rfl) ⟨Nat.le_of_ble_eq_true rfl, Nat.le_of_ble_eq_true rfl⟩ ⟨(bud3 (c := 4) hq hk (by decide)).2, (bud4 (c := 24) hq hns (by decide)).2⟩ (fun _ h => h.elim) xav_no (fun r1 hp1 hq1 => ?_)
    obtain ⟨rfl, o2, jc2, jr2, -, hF⟩ := hq1
    obtain rfl := hF hc
    refine a_istore (i := 5) C dL_law_664 (by decide) ?_
    refine a_aload_n (i := 2) C dL_law_666 rfl rfl ?_
    refine a_aload_n (i := 0) C dL_law_667 rfl rfl ?_
    refine a_iload (i := 4) C dL_law_668 rfl ?_
    refine a_iconst (v := 1) C dL_law_670 (by decide) ?_
    refine a_iadd C dL_law_671 ?_
    refine a_top (nI (i + 1)) (nI_add i 1) ?_
    refine a_scrGet C hS dL_law_672 (by omega) (by omega) ?_
    refine a_aload_n (i := 0) C dL_law_673 rfl rfl ?_
    refine a_iload (i := 4) C dL_law_674 rfl ?_
    refine a_iconst (v := 2) C dL_law_676 (by decide) ?_
    refine a_iadd C dL_law_677 ?_
    refine a_top (nI (i + 2)) (nI_add i 2) ?_
    refine a_scrGet C hS dL_law_678 (by omega) (by omega) ?_
    refine a_aload_n (i := 0) C dL_law_679 rfl rfl ?_
    refine a_iload (i := 4) C dL_law_680 rfl ?_
    refine a_iconst (v := 3) C dL_law_682 (by decide) ?_
    refine a_iadd C dL_law_683 ?_
    refine a_top (nI (i + 3)) (nI_add i 3) ?_
    refine a_scrGet C hS dL_law_684 (by omega) (by omega) ?_
    refine a_hp xCM ?_
    refine a_callV C dL_law_685 cv_X7_postInvoice tb1092 (m_X7_postInvoice hflags hI (by omega)) rfl rfl xM_0 rfl (Nat.le_of_ble_eq_true rfl) ⟨Nat.le_of_ble_eq_true rfl, Nat.le_of_ble_eq_true rfl⟩ ⟨(bud3 (c := 4) hq hk (by decide)).2, (bud4 (c := 24) hq hns (by decide)).2⟩ (fun _ h => h.elim) xav_no (fun _ _ h => h.elim) (fun r2 hp2 hq2 => ?_)
    obtain ⟨rfl, rfl⟩ := hq2
    refine a_loc [(0, .ref 908), (1, .ref 0), (2, .ref 200), (3, .ref 230), (4, .int (nI i)), (5, .int (((o_postInvoice nc ni nl (xs (i + 1)) (xs (i + 2)) (xs (i + 3)) n f g)).2.1 0))] (xsub_cons rfl (xsub_cons rfl (xsub_cons rfl (xsub_cons rfl (xsub_cons rfl (xsub_cons rfl (xsub_nil))))))) ?_
    obtain ⟨eF, eG, e1, hJ2⟩ := hS9.2 hc
    refine l_tail hflags C (p0 := 688) dL_law_688 dL_law_690 dL_law_691 dL_law_694 dL_law_696 dL_law_701 dL_law_703 dL_law_706 dL_law_707 dL_law_708 dL_law_709 dL_law_711 dL_law_712 dL_law_713 dL_law_718 (by decide) (bud3 (c := 4) hq hk (by decide)).2 (bud4 (c := 24) hq hns (by decide)).2 (fun z => absurd z hc) ?_
    refine a_hp (show _ = xC (xM (xOut o2) ((o_postInvoice nc ni nl (xs (i + 1)) (xs (i + 2)) (xs (i + 3)) n f g)).2.1 f g) nc ni np nl (((o_postInvoice nc ni nl (xs (i + 1)) (xs (i + 2)) (xs (i + 3)) n f g)).2.1 1) f g jc2 jr2 by rw [eF, eG, e1, xCM]) ?_
    exact next o2 _ _ _ _ _ _ _ jc2 jr2 _ _ hJ2 (bud3 (c := 4) hq hk (by decide)).1 (bud4 (c := 24) hq hns (by decide)).1
set_option maxRecDepth 100000 in
set_option maxHeartbeats 4000000 in
theorem lc_postPayment {E : xEnv} {l : Launch} {N0 : Nat} {D : va_G} {dT : Nat → ClassId} {ret : Option FieldType} {tab : List ExceptionTableEntry} (hflags : l.stackTraces = false) (C : aC E l N0 D dT cL_law "ReceivablesBookLaw" 7 ret tab room_1 nwLaw) (hN : xNcE E) {Ln i q9 : Nat} {xs : Nat → Int32} (hS : xScr Ln xs E) (hLn : Ln ≤ 2048) (hi : i + 4 ≤ Ln) (hq : q9 < 512) {o9 : Int64} {n : Nat → Int32} {f : Nat → Nat → Int32} {g : Nat → Nat → Int64} {nc ni np nl : Nat} {jc : Nat → Nat → Int32} {jr : Nat → Int64} {k ns : Nat} (hJ : JI n f g nc ni np nl q9) (hk : k ≤ 34 + 8 * q9 + 2 * lGen nl) (hns : ns ≤ 33300 + 100 * q9 + 4 * lCap nl) (next : ∀ (o : Int64) (n : Nat → Int32) (f : Nat → Nat → Int32) (g : Nat → Nat → Int64) (nc ni np nl : Nat) (jc : Nat → Nat → Int32) (jr : Nat → Int64) (k ns : Nat), JI n f g nc ni np nl (q9 + 1) → k ≤ 34 + 8 * (q9 + 1) + 2 * lGen nl → ns ≤ 33300 + 100 * (q9 + 1) + 4 * lCap nl → aW E k ns (xC (xM (xOut o) n f g) nc ni np nl (n 1) f g jc jr) 2412 [(0, .ref 908), (1, .ref 0), (2, .ref 200), (3, .ref 230), (4, .int (nI i))] []) : aW E k ns (xC (xM (xOut o9) n f g) nc ni np nl (n 1) f g jc jr) 721 [(0, .ref 908), (1, .ref 0), (2, .ref 200), (3, .ref 230), (4, .int (nI i))] [] := by
  have hnl := JI_nl hJ (by omega)
  obtain ⟨hI, ⟨t9, ht, ht2, hG⟩, hLl⟩ := id hJ
  obtain ⟨-, -, -, -, hc6, hi24, hp24, hl16⟩ := id hI
  have hB : nc ≤ 6 ∧ ni ≤ 24 ∧ np ≤ 24 ∧ nl ≤ 16000 := ⟨hc6, hi24, hp24, hl16⟩
  have hOe := hG.1.1
  have hPe := hG.1.2.1
  have hWz := JG_W hG
  have z21 := hG.2.1.2.2.1 np (Nat.le_refl np)
  have z22 : ∀ q, q < 24 → f 22 (24 * np + q) = 0 := fun q hq => hG.2.1.2.2.2 np q hq (Or.inl (Nat.le_refl np))
  have hS9 : sP n f g nc ni np nl q9 (nc) (ni) ((np + 1)) ((mAR ni nl np (xs (i + 1)).toNatClampNeg (nup (nup n 0 0) 4 (nI (np + 1))) (fup (fup f 19 (upd (f 19) np (xs (i + 1)))) 20 (upd (f 20) np (xs (i + 2)))) g).2.1) ((o_postPayment nc ni np nl (xs (i + 1)) (xs (i + 2)) n f g)) := (S_postPayment hJ (by omega))
  by_cases hc : ((o_postPayment nc ni np nl (xs (i + 1)) (xs (i + 2)) n f g)).2.1 0 = 0
  · have hle1 : nl ≤ (mAR ni nl np (xs (i + 1)).toNatClampNeg (nup (nup n 0 0) 4 (nI (np + 1))) (fup (fup f 19 (upd (f 19) np (xs (i + 1)))) 20 (upd (f 20) np (xs (i + 2)))) g).2.1 := mAR_le.1
    have hle2 := (hS9.1 hc).1.2.2.2.2.2.2.2
    refine a_aload_n (i := 1) C dL_law_721 rfl rfl ?_
    refine a_aload_n (i := 0) C dL_law_722 rfl rfl ?_
    refine a_iload (i := 4) C dL_law_723 rfl ?_
    refine a_iconst (v := 1) C dL_law_725 (by decide) ?_
    refine a_iadd C dL_law_726 ?_
    refine a_top (nI (i + 1)) (nI_add i 1) ?_
    refine a_scrGet C hS dL_law_727 (by omega) (by omega) ?_
    refine a_aload_n (i := 0) C dL_law_728 rfl rfl ?_
    refine a_iload (i := 4) C dL_law_729 rfl ?_
    refine a_iconst (v := 2) C dL_law_731 (by decide) ?_
    refine a_iadd C dL_law_732 ?_
    refine a_top (nI (i + 2)) (nI_add i 2) ?_
    refine a_scrGet C hS dL_law_733 (by omega) (by omega) ?_
    refine a_aload_n (i := 3) C dL_law_734 rfl rfl ?_
    refine a_callSN (na := 4) C hN dL_law_735 ⟨tb560, tb46, tb561, ⟨by decide, by decide, by decide +kernel⟩⟩ tb559 (w_postPayment hflags (o9 := o9) hB z21 z22 hWz (by omega) hOe hPe) rfl rfl (Nat.le_of_ble_eq_true rfl) ⟨Nat.le_of_ble_eq_true rfl, Nat.le_of_ble_eq_true rfl⟩ ⟨(bud1 (c := 6) hq hk (by decide) hle1 hle2).2, (bud2 (c := 80) hq hns (by decide) hle1 hle2).2⟩ (fun j h => xnwB_lt h) ⟨fun q hq j hj => (by simp only [List.mem_cons, List.not_mem_nil, or_false] at hq; rcases hq with rfl | rfl | rfl | rfl | rfl <;> first | exact Value.noConfusion hj | exact xnwB_law (by decide) (Value.ref.inj hj)), fun v hv => nomatch hv⟩ (fun r1 hp1 hq1 => ?_)
    obtain ⟨rfl, o2, jc2, jr2, hA, -⟩ := hq1
    obtain ⟨e1, rfl⟩ := hA hc
    refine a_istore (i := 5) C dL_law_738 (by decide) ?_
    refine a_aload_n (i := 2) C dL_law_740 rfl rfl ?_
    refine a_aload_n (i := 0) C dL_law_741 rfl rfl ?_
    refine a_iload (i := 4) C dL_law_742 rfl ?_
    refine a_iconst (v := 1) C dL_law_744 (by decide) ?_
    refine a_iadd C dL_law_745 ?_
    refine a_top (nI (i + 1)) (nI_add i 1) ?_
    refine a_scrGet C hS dL_law_746 (by omega) (by omega) ?_
    refine a_aload_n (i := 0) C dL_law_747 rfl rfl ?_
    refine a_iload (i := 4) C dL_law_748 rfl ?_
    refine a_iconst (v := 2) C dL_law_750 (by decide) ?_
    refine a_iadd C dL_law_751 ?_
    refine a_top (nI (i + 2)) (nI_add i 2) ?_
    refine a_scrGet C hS dL_law_752 (by omega) (by omega) ?_
    refine a_hp xCM ?_
    refine a_callV C dL_law_753 cv_X7_postPayment tb1105 (m_X7_postPayment hflags hI (fun c1 c2 c3 => by
          have h1 := i32_le.mp c2.1
          have h2 := i32_le.mp c2.2
          have k0 : (1 : Int32).toInt = 1 := rfl
          have kA : (10000000 : Int32).toInt = 10000000 := rfl
          have h := (JG_newp (k := (xs (i + 1)).toNatClampNeg) (a := xs (i + 2)) hG hi24 (xin_j c1 (by omega)) (by omega)).1
          rw [← xin_e c1 (by omega)] at h
          exact mAok_of h hi24 (by omega))) rfl rfl xM_0 rfl (Nat.le_of_ble_eq_true rfl) ⟨Nat.le_of_ble_eq_true rfl, Nat.le_of_ble_eq_true rfl⟩ ⟨(bud1 (c := 6) hq hk (by decide) hle1 hle2).2, (bud2 (c := 80) hq hns (by decide) hle1 hle2).2⟩ (fun _ h => h.elim) xav_no (fun _ _ h => h.elim) (fun r2 hp2 hq2 => ?_)
    obtain ⟨rfl, rfl⟩ := hq2
    refine a_loc [(0, .ref 908), (1, .ref 0), (2, .ref 200), (3, .ref 230), (4, .int (nI i)), (5, .int (((o_postPayment nc ni np nl (xs (i + 1)) (xs (i + 2)) n f g)).2.1 0))] (xsub_cons rfl (xsub_cons rfl (xsub_cons rfl (xsub_cons rfl (xsub_cons rfl (xsub_cons rfl (xsub_nil))))))) ?_
    exact l_tail hflags C (p0 := 756) dL_law_756 dL_law_758 dL_law_759 dL_law_762 dL_law_764 dL_law_769 dL_law_771 dL_law_774 dL_law_775 dL_law_776 dL_law_777 dL_law_779 dL_law_780 dL_law_781 dL_law_786 (by decide) (bud1 (c := 6) hq hk (by decide) hle1 hle2).2 (bud2 (c := 80) hq hns (by decide) hle1 hle2).2 (fun _ => e1) (a_hp xCM.symm (next o2 _ _ _ _ _ _ _ jc2 jr2 _ _ (hS9.1 hc) (bud1 (c := 6) hq hk (by decide) hle1 hle2).1 (bud2 (c := 80) hq hns (by decide) hle1 hle2).1))
  · refine a_aload_n (i := 1) C dL_law_721 rfl rfl ?_
    refine a_aload_n (i := 0) C dL_law_722 rfl rfl ?_
    refine a_iload (i := 4) C dL_law_723 rfl ?_
    refine a_iconst (v := 1) C dL_law_725 (by decide) ?_
    refine a_iadd C dL_law_726 ?_
    refine a_top (nI (i + 1)) (nI_add i 1) ?_
    refine a_scrGet C hS dL_law_727 (by omega) (by omega) ?_
    refine a_aload_n (i := 0) C dL_law_728 rfl rfl ?_
    refine a_iload (i := 4) C dL_law_729 rfl ?_
    refine a_iconst (v := 2) C dL_law_731 (by decide) ?_
    refine a_iadd C dL_law_732 ?_
    refine a_top (nI (i + 2)) (nI_add i 2) ?_
    refine a_scrGet C hS dL_law_733 (by omega) (by omega) ?_
    refine a_aload_n (i := 3) C dL_law_734 rfl rfl ?_
    refine a_callSN (na := 4) C hN dL_law_735 ⟨tb560, tb46, tb561, ⟨by decide, by decide, by decide +kernel⟩⟩ tb559 (n_postPayment hflags (o9 := o9) hB hc) rfl rfl (Nat.le_of_ble_eq_true rfl) ⟨Nat.le_of_ble_eq_true rfl, Nat.le_of_ble_eq_true rfl⟩ ⟨(bud3 (c := 3) hq hk (by decide)).2, (bud4 (c := 18) hq hns (by decide)).2⟩ (fun _ h => h.elim) xav_no (fun r1 hp1 hq1 => ?_)
    obtain ⟨rfl, o2, jc2, jr2, -, hF⟩ := hq1
    obtain rfl := hF hc
    refine a_istore (i := 5) C dL_law_738 (by decide) ?_
    refine a_aload_n (i := 2) C dL_law_740 rfl rfl ?_
    refine a_aload_n (i := 0) C dL_law_741 rfl rfl ?_
    refine a_iload (i := 4) C dL_law_742 rfl ?_
    refine a_iconst (v := 1) C dL_law_744 (by decide) ?_
    refine a_iadd C dL_law_745 ?_
    refine a_top (nI (i + 1)) (nI_add i 1) ?_
    refine a_scrGet C hS dL_law_746 (by omega) (by omega) ?_
    refine a_aload_n (i := 0) C dL_law_747 rfl rfl ?_
    refine a_iload (i := 4) C dL_law_748 rfl ?_
    refine a_iconst (v := 2) C dL_law_750 (by decide) ?_
    refine a_iadd C dL_law_751 ?_
    refine a_top (nI (i + 2)) (nI_add i 2) ?_
    refine a_scrGet C hS dL_law_752 (by omega) (by omega) ?_
    refine a_hp xCM ?_
    refine a_callV C dL_law_753 cv_X7_postPayment tb1105 (m_X7_postPayment hflags hI (fun c1 c2 c3 => by
          have h1 := i32_le.mp c2.1
          have h2 := i32_le.mp c2.2
          have k0 : (1 : Int32).toInt = 1 := rfl
          have kA : (10000000 : Int32).toInt = 10000000 := rfl
          have h := (JG_newp (k := (xs (i + 1)).toNatClampNeg) (a := xs (i + 2)) hG hi24 (xin_j c1 (by omega)) (by omega)).1
          rw [← xin_e c1 (by omega)] at h
          exact mAok_of h hi24 (by omega))) rfl rfl xM_0 rfl (Nat.le_of_ble_eq_true rfl) ⟨Nat.le_of_ble_eq_true rfl, Nat.le_of_ble_eq_true rfl⟩ ⟨(bud3 (c := 3) hq hk (by decide)).2, (bud4 (c := 18) hq hns (by decide)).2⟩ (fun _ h => h.elim) xav_no (fun _ _ h => h.elim) (fun r2 hp2 hq2 => ?_)
    obtain ⟨rfl, rfl⟩ := hq2
    refine a_loc [(0, .ref 908), (1, .ref 0), (2, .ref 200), (3, .ref 230), (4, .int (nI i)), (5, .int (((o_postPayment nc ni np nl (xs (i + 1)) (xs (i + 2)) n f g)).2.1 0))] (xsub_cons rfl (xsub_cons rfl (xsub_cons rfl (xsub_cons rfl (xsub_cons rfl (xsub_cons rfl (xsub_nil))))))) ?_
    obtain ⟨eF, eG, e1, hJ2⟩ := hS9.2 hc
    refine l_tail hflags C (p0 := 756) dL_law_756 dL_law_758 dL_law_759 dL_law_762 dL_law_764 dL_law_769 dL_law_771 dL_law_774 dL_law_775 dL_law_776 dL_law_777 dL_law_779 dL_law_780 dL_law_781 dL_law_786 (by decide) (bud3 (c := 3) hq hk (by decide)).2 (bud4 (c := 18) hq hns (by decide)).2 (fun z => absurd z hc) ?_
    refine a_hp (show _ = xC (xM (xOut o2) ((o_postPayment nc ni np nl (xs (i + 1)) (xs (i + 2)) n f g)).2.1 f g) nc ni np nl (((o_postPayment nc ni np nl (xs (i + 1)) (xs (i + 2)) n f g)).2.1 1) f g jc2 jr2 by rw [eF, eG, e1, xCM]) ?_
    exact next o2 _ _ _ _ _ _ _ jc2 jr2 _ _ hJ2 (bud3 (c := 3) hq hk (by decide)).1 (bud4 (c := 18) hq hns (by decide)).1
set_option maxRecDepth 100000 in
set_option maxHeartbeats 4000000 in
theorem lc_allocate {E : xEnv} {l : Launch} {N0 : Nat} {D : va_G} {dT : Nat → ClassId} {ret : Option FieldType} {tab : List ExceptionTableEntry} (hflags : l.stackTraces = false) (C : aC E l N0 D dT cL_law "ReceivablesBookLaw" 7 ret tab room_1 nwLaw) (hN : xNcE E) {Ln i q9 : Nat} {xs : Nat → Int32} (hS : xScr Ln xs E) (hLn : Ln ≤ 2048) (hi : i + 4 ≤ Ln) (hq : q9 < 512) {o9 : Int64} {n : Nat → Int32} {f : Nat → Nat → Int32} {g : Nat → Nat → Int64} {nc ni np nl : Nat} {jc : Nat → Nat → Int32} {jr : Nat → Int64} {k ns : Nat} (hJ : JI n f g nc ni np nl q9) (hk : k ≤ 34 + 8 * q9 + 2 * lGen nl) (hns : ns ≤ 33300 + 100 * q9 + 4 * lCap nl) (next : ∀ (o : Int64) (n : Nat → Int32) (f : Nat → Nat → Int32) (g : Nat → Nat → Int64) (nc ni np nl : Nat) (jc : Nat → Nat → Int32) (jr : Nat → Int64) (k ns : Nat), JI n f g nc ni np nl (q9 + 1) → k ≤ 34 + 8 * (q9 + 1) + 2 * lGen nl → ns ≤ 33300 + 100 * (q9 + 1) + 4 * lCap nl → aW E k ns (xC (xM (xOut o) n f g) nc ni np nl (n 1) f g jc jr) 2412 [(0, .ref 908), (1, .ref 0), (2, .ref 200), (3, .ref 230), (4, .int (nI i))] []) : aW E k ns (xC (xM (xOut o9) n f g) nc ni np nl (n 1) f g jc jr) 789 [(0, .ref 908), (1, .ref 0), (2, .ref 200), (3, .ref 230), (4, .int (nI i))] [] := by
  have hnl := JI_nl hJ (by omega)
  obtain ⟨hI, ⟨t9, ht, ht2, hG⟩, hLl⟩ := id hJ
  obtain ⟨-, -, -, -, hc6, hi24, hp24, hl16⟩ := id hI
  have hB : nc ≤ 6 ∧ ni ≤ 24 ∧ np ≤ 24 ∧ nl ≤ 16000 := ⟨hc6, hi24, hp24, hl16⟩
  have hOe := hG.1.1
  have hPe := hG.1.2.1
  have hRV : ∀ p, p < np → ¬ f 21 p = 0 → f 20 p = 0 := fun p hp z => (hG.2.2.2.1.2.2.2.2 p hp z).1
  have hS9 : sP n f g nc ni np nl q9 (nc) (ni) (np) ((mWl nl (-(xs (i + 3))))) ((o_allocate ni np nl (xs (i + 1)) (xs (i + 2)) (xs (i + 3)) n f g)) := (S_allocate hJ (by omega))
  by_cases hc : ((o_allocate ni np nl (xs (i + 1)) (xs (i + 2)) (xs (i + 3)) n f g)).2.1 0 = 0
  · have hle1 : nl ≤ (mWl nl (-(xs (i + 3)))) := mWl_1.2
    have hle2 := (hS9.1 hc).1.2.2.2.2.2.2.2
    refine a_aload_n (i := 1) C dL_law_789 rfl rfl ?_
    refine a_aload_n (i := 0) C dL_law_790 rfl rfl ?_
    refine a_iload (i := 4) C dL_law_791 rfl ?_
    refine a_iconst (v := 1) C dL_law_793 (by decide) ?_
    refine a_iadd C dL_law_794 ?_
    refine a_top (nI (i + 1)) (nI_add i 1) ?_
    refine a_scrGet C hS dL_law_795 (by omega) (by omega) ?_
    refine a_aload_n (i := 0) C dL_law_796 rfl rfl ?_
    refine a_iload (i := 4) C dL_law_797 rfl ?_
    refine a_iconst (v := 2) C dL_law_799 (by decide) ?_
    refine a_iadd C dL_law_800 ?_
    refine a_top (nI (i + 2)) (nI_add i 2) ?_
    refine a_scrGet C hS dL_law_801 (by omega) (by omega) ?_
    refine a_aload_n (i := 0) C dL_law_802 rfl rfl ?_
    refine a_iload (i := 4) C dL_law_803 rfl ?_
    refine a_iconst (v := 3) C dL_law_805 (by decide) ?_
    refine a_iadd C dL_law_806 ?_
    refine a_top (nI (i + 3)) (nI_add i 3) ?_
    refine a_scrGet C hS dL_law_807 (by omega) (by omega) ?_
    refine a_aload_n (i := 3) C dL_law_808 rfl rfl ?_
    refine a_callSN (na := 5) C hN dL_law_809 ⟨tb676, tb46, tb677, ⟨by decide, by decide, by decide +kernel⟩⟩ tb675 (w_allocate hflags (o9 := o9) hB hOe hPe hRV (by omega)) rfl rfl (Nat.le_of_ble_eq_true rfl) ⟨Nat.le_of_ble_eq_true rfl, Nat.le_of_ble_eq_true rfl⟩ ⟨(bud1 (c := 4) hq hk (by decide) hle1 hle2).2, (bud2 (c := 24) hq hns (by decide) hle1 hle2).2⟩ (fun j h => Nat.lt_of_le_of_lt h.2 (by decide)) ⟨fun q hq j hj => (by simp only [List.mem_cons, List.not_mem_nil, or_false] at hq; rcases hq with rfl | rfl | rfl | rfl | rfl <;> first | exact Value.noConfusion hj | exact xnwD_law (by decide) (Value.ref.inj hj)), fun v hv => nomatch hv⟩ (fun r1 hp1 hq1 => ?_)
    obtain ⟨rfl, o2, jc2, jr2, hA, -⟩ := hq1
    obtain ⟨e1, rfl⟩ := hA hc
    refine a_istore (i := 5) C dL_law_812 (by decide) ?_
    refine a_aload_n (i := 2) C dL_law_814 rfl rfl ?_
    refine a_aload_n (i := 0) C dL_law_815 rfl rfl ?_
    refine a_iload (i := 4) C dL_law_816 rfl ?_
    refine a_iconst (v := 1) C dL_law_818 (by decide) ?_
    refine a_iadd C dL_law_819 ?_
    refine a_top (nI (i + 1)) (nI_add i 1) ?_
    refine a_scrGet C hS dL_law_820 (by omega) (by omega) ?_
    refine a_aload_n (i := 0) C dL_law_821 rfl rfl ?_
    refine a_iload (i := 4) C dL_law_822 rfl ?_
    refine a_iconst (v := 2) C dL_law_824 (by decide) ?_
    refine a_iadd C dL_law_825 ?_
    refine a_top (nI (i + 2)) (nI_add i 2) ?_
    refine a_scrGet C hS dL_law_826 (by omega) (by omega) ?_
    refine a_aload_n (i := 0) C dL_law_827 rfl rfl ?_
    refine a_iload (i := 4) C dL_law_828 rfl ?_
    refine a_iconst (v := 3) C dL_law_830 (by decide) ?_
    refine a_iadd C dL_law_831 ?_
    refine a_top (nI (i + 3)) (nI_add i 3) ?_
    refine a_scrGet C hS dL_law_832 (by omega) (by omega) ?_
    refine a_hp xCM ?_
    refine a_callV C dL_law_833 cv_X7_allocate tb1133 (m_X7_allocate hflags hI (by omega)) rfl rfl xM_0 rfl (Nat.le_of_ble_eq_true rfl) ⟨Nat.le_of_ble_eq_true rfl, Nat.le_of_ble_eq_true rfl⟩ ⟨(bud1 (c := 4) hq hk (by decide) hle1 hle2).2, (bud2 (c := 24) hq hns (by decide) hle1 hle2).2⟩ (fun _ h => h.elim) xav_no (fun _ _ h => h.elim) (fun r2 hp2 hq2 => ?_)
    obtain ⟨rfl, rfl⟩ := hq2
    refine a_loc [(0, .ref 908), (1, .ref 0), (2, .ref 200), (3, .ref 230), (4, .int (nI i)), (5, .int (((o_allocate ni np nl (xs (i + 1)) (xs (i + 2)) (xs (i + 3)) n f g)).2.1 0))] (xsub_cons rfl (xsub_cons rfl (xsub_cons rfl (xsub_cons rfl (xsub_cons rfl (xsub_cons rfl (xsub_nil))))))) ?_
    exact l_tail hflags C (p0 := 836) dL_law_836 dL_law_838 dL_law_839 dL_law_842 dL_law_844 dL_law_849 dL_law_851 dL_law_854 dL_law_855 dL_law_856 dL_law_857 dL_law_859 dL_law_860 dL_law_861 dL_law_866 (by decide) (bud1 (c := 4) hq hk (by decide) hle1 hle2).2 (bud2 (c := 24) hq hns (by decide) hle1 hle2).2 (fun _ => e1) (a_hp xCM.symm (next o2 _ _ _ _ _ _ _ jc2 jr2 _ _ (hS9.1 hc) (bud1 (c := 4) hq hk (by decide) hle1 hle2).1 (bud2 (c := 24) hq hns (by decide) hle1 hle2).1))
  · refine a_aload_n (i := 1) C dL_law_789 rfl rfl ?_
    refine a_aload_n (i := 0) C dL_law_790 rfl rfl ?_
    refine a_iload (i := 4) C dL_law_791 rfl ?_
    refine a_iconst (v := 1) C dL_law_793 (by decide) ?_
    refine a_iadd C dL_law_794 ?_
    refine a_top (nI (i + 1)) (nI_add i 1) ?_
    refine a_scrGet C hS dL_law_795 (by omega) (by omega) ?_
    refine a_aload_n (i := 0) C dL_law_796 rfl rfl ?_
    refine a_iload (i := 4) C dL_law_797 rfl ?_
    refine a_iconst (v := 2) C dL_law_799 (by decide) ?_
    refine a_iadd C dL_law_800 ?_
    refine a_top (nI (i + 2)) (nI_add i 2) ?_
    refine a_scrGet C hS dL_law_801 (by omega) (by omega) ?_
    refine a_aload_n (i := 0) C dL_law_802 rfl rfl ?_
    refine a_iload (i := 4) C dL_law_803 rfl ?_
    refine a_iconst (v := 3) C dL_law_805 (by decide) ?_
    refine a_iadd C dL_law_806 ?_
    refine a_top (nI (i + 3)) (nI_add i 3) ?_
    refine a_scrGet C hS dL_law_807 (by omega) (by omega) ?_
    refine a_aload_n (i := 3) C dL_law_808 rfl rfl ?_
    refine a_callSN (na := 5) C hN dL_law_809 ⟨tb676, tb46, tb677, ⟨by decide, by decide, by decide +kernel⟩⟩ tb675 (n_allocate hflags (o9 := o9) hB hOe hPe hRV hc) rfl rfl (Nat.le_of_ble_eq_true rfl) ⟨Nat.le_of_ble_eq_true rfl, Nat.le_of_ble_eq_true rfl⟩ ⟨(bud3 (c := 4) hq hk (by decide)).2, (bud4 (c := 24) hq hns (by decide)).2⟩ (fun _ h => h.elim) xav_no (fun r1 hp1 hq1 => ?_)
    obtain ⟨rfl, o2, jc2, jr2, -, hF⟩ := hq1
    obtain rfl := hF hc
    refine a_istore (i := 5) C dL_law_812 (by decide) ?_
    refine a_aload_n (i := 2) C dL_law_814 rfl rfl ?_
    refine a_aload_n (i := 0) C dL_law_815 rfl rfl ?_
    refine a_iload (i := 4) C dL_law_816 rfl ?_
    refine a_iconst (v := 1) C dL_law_818 (by decide) ?_
    refine a_iadd C dL_law_819 ?_
    refine a_top (nI (i + 1)) (nI_add i 1) ?_
    refine a_scrGet C hS dL_law_820 (by omega) (by omega) ?_
    refine a_aload_n (i := 0) C dL_law_821 rfl rfl ?_
    refine a_iload (i := 4) C dL_law_822 rfl ?_
    refine a_iconst (v := 2) C dL_law_824 (by decide) ?_
    refine a_iadd C dL_law_825 ?_
    refine a_top (nI (i + 2)) (nI_add i 2) ?_
    refine a_scrGet C hS dL_law_826 (by omega) (by omega) ?_
    refine a_aload_n (i := 0) C dL_law_827 rfl rfl ?_
    refine a_iload (i := 4) C dL_law_828 rfl ?_
    refine a_iconst (v := 3) C dL_law_830 (by decide) ?_
    refine a_iadd C dL_law_831 ?_
    refine a_top (nI (i + 3)) (nI_add i 3) ?_
    refine a_scrGet C hS dL_law_832 (by omega) (by omega) ?_
    refine a_hp xCM ?_
    refine a_callV C dL_law_833 cv_X7_allocate tb1133 (m_X7_allocate hflags hI (by omega)) rfl rfl xM_0 rfl (Nat.le_of_ble_eq_true rfl) ⟨Nat.le_of_ble_eq_true rfl, Nat.le_of_ble_eq_true rfl⟩ ⟨(bud3 (c := 4) hq hk (by decide)).2, (bud4 (c := 24) hq hns (by decide)).2⟩ (fun _ h => h.elim) xav_no (fun _ _ h => h.elim) (fun r2 hp2 hq2 => ?_)
    obtain ⟨rfl, rfl⟩ := hq2
    refine a_loc [(0, .ref 908), (1, .ref 0), (2, .ref 200), (3, .ref 230), (4, .int (nI i)), (5, .int (((o_allocate ni np nl (xs (i + 1)) (xs (i + 2)) (xs (i + 3)) n f g)).2.1 0))] (xsub_cons rfl (xsub_cons rfl (xsub_cons rfl (xsub_cons rfl (xsub_cons rfl (xsub_cons rfl (xsub_nil))))))) ?_
    obtain ⟨eF, eG, e1, hJ2⟩ := hS9.2 hc
    refine l_tail hflags C (p0 := 836) dL_law_836 dL_law_838 dL_law_839 dL_law_842 dL_law_844 dL_law_849 dL_law_851 dL_law_854 dL_law_855 dL_law_856 dL_law_857 dL_law_859 dL_law_860 dL_law_861 dL_law_866 (by decide) (bud3 (c := 4) hq hk (by decide)).2 (bud4 (c := 24) hq hns (by decide)).2 (fun z => absurd z hc) ?_
    refine a_hp (show _ = xC (xM (xOut o2) ((o_allocate ni np nl (xs (i + 1)) (xs (i + 2)) (xs (i + 3)) n f g)).2.1 f g) nc ni np nl (((o_allocate ni np nl (xs (i + 1)) (xs (i + 2)) (xs (i + 3)) n f g)).2.1 1) f g jc2 jr2 by rw [eF, eG, e1, xCM]) ?_
    exact next o2 _ _ _ _ _ _ _ jc2 jr2 _ _ hJ2 (bud3 (c := 4) hq hk (by decide)).1 (bud4 (c := 24) hq hns (by decide)).1
set_option maxRecDepth 100000 in
set_option maxHeartbeats 4000000 in
theorem lc_allocateRest {E : xEnv} {l : Launch} {N0 : Nat} {D : va_G} {dT : Nat → ClassId} {ret : Option FieldType} {tab : List ExceptionTableEntry} (hflags : l.stackTraces = false) (C : aC E l N0 D dT cL_law "ReceivablesBookLaw" 7 ret tab room_1 nwLaw) (hN : xNcE E) {Ln i q9 : Nat} {xs : Nat → Int32} (hS : xScr Ln xs E) (hLn : Ln ≤ 2048) (hi : i + 4 ≤ Ln) (hq : q9 < 512) {o9 : Int64} {n : Nat → Int32} {f : Nat → Nat → Int32} {g : Nat → Nat → Int64} {nc ni np nl : Nat} {jc : Nat → Nat → Int32} {jr : Nat → Int64} {k ns : Nat} (hJ : JI n f g nc ni np nl q9) (hk : k ≤ 34 + 8 * q9 + 2 * lGen nl) (hns : ns ≤ 33300 + 100 * q9 + 4 * lCap nl) (next : ∀ (o : Int64) (n : Nat → Int32) (f : Nat → Nat → Int32) (g : Nat → Nat → Int64) (nc ni np nl : Nat) (jc : Nat → Nat → Int32) (jr : Nat → Int64) (k ns : Nat), JI n f g nc ni np nl (q9 + 1) → k ≤ 34 + 8 * (q9 + 1) + 2 * lGen nl → ns ≤ 33300 + 100 * (q9 + 1) + 4 * lCap nl → aW E k ns (xC (xM (xOut o) n f g) nc ni np nl (n 1) f g jc jr) 2412 [(0, .ref 908), (1, .ref 0), (2, .ref 200), (3, .ref 230), (4, .int (nI i))] []) : aW E k ns (xC (xM (xOut o9) n f g) nc ni np nl (n 1) f g jc jr) 869 [(0, .ref 908), (1, .ref 0), (2, .ref 200), (3, .ref 230), (4, .int (nI i))] [] := by
  have hnl := JI_nl hJ (by omega)
  obtain ⟨hI, ⟨t9, ht, ht2, hG⟩, hLl⟩ := id hJ
  obtain ⟨-, -, -, -, hc6, hi24, hp24, hl16⟩ := id hI
  have hB : nc ≤ 6 ∧ ni ≤ 24 ∧ np ≤ 24 ∧ nl ≤ 16000 := ⟨hc6, hi24, hp24, hl16⟩
  have hOe := hG.1.1
  have hPe := hG.1.2.1
  have hb := JI_b hJ (by omega)
  have hS9 : sP n f g nc ni np nl q9 (nc) (ni) (np) (((mRS ni nl (xs (i + 1)).toNatClampNeg (nup n 0 0) f g np).2.1)) ((o_allocateRest nc ni np nl (xs (i + 1)) n f g)) := (S_allocateRest hJ (by omega))
  by_cases hc : ((o_allocateRest nc ni np nl (xs (i + 1)) n f g)).2.1 0 = 0
  · have hle1 : nl ≤ ((mRS ni nl (xs (i + 1)).toNatClampNeg (nup n 0 0) f g np).2.1) := (mRS_le (i := 0) np (Nat.zero_le np))
    have hle2 := (hS9.1 hc).1.2.2.2.2.2.2.2
    refine a_aload_n (i := 1) C dL_law_869 rfl rfl ?_
    refine a_aload_n (i := 0) C dL_law_870 rfl rfl ?_
    refine a_iload (i := 4) C dL_law_871 rfl ?_
    refine a_iconst (v := 1) C dL_law_873 (by decide) ?_
    refine a_iadd C dL_law_874 ?_
    refine a_top (nI (i + 1)) (nI_add i 1) ?_
    refine a_scrGet C hS dL_law_875 (by omega) (by omega) ?_
    refine a_aload_n (i := 3) C dL_law_876 rfl rfl ?_
    refine a_callSN (na := 3) C hN dL_law_877 ⟨tb696, tb46, tb697, ⟨by decide, by decide, by decide +kernel⟩⟩ tb695 (w_allocateRest hflags (o9 := o9) hB (fun _ => cRok_of hG hi24 hb) hOe hPe) rfl rfl (Nat.le_of_ble_eq_true rfl) ⟨Nat.le_of_ble_eq_true rfl, Nat.le_of_ble_eq_true rfl⟩ ⟨(bud1 (c := 1) hq hk (by decide) hle1 hle2).2, (bud2 (c := 6) hq hns (by decide) hle1 hle2).2⟩ (fun j h => Nat.lt_of_le_of_lt h.2 (by decide)) ⟨fun q hq j hj => (by simp only [List.mem_cons, List.not_mem_nil, or_false] at hq; rcases hq with rfl | rfl | rfl | rfl | rfl <;> first | exact Value.noConfusion hj | exact xnwD_law (by decide) (Value.ref.inj hj)), fun v hv => nomatch hv⟩ (fun r1 hp1 hq1 => ?_)
    obtain ⟨rfl, o2, jc2, jr2, hA, -⟩ := hq1
    obtain ⟨e1, rfl⟩ := hA hc
    refine a_istore (i := 5) C dL_law_880 (by decide) ?_
    refine a_aload_n (i := 2) C dL_law_882 rfl rfl ?_
    refine a_aload_n (i := 0) C dL_law_883 rfl rfl ?_
    refine a_iload (i := 4) C dL_law_884 rfl ?_
    refine a_iconst (v := 1) C dL_law_886 (by decide) ?_
    refine a_iadd C dL_law_887 ?_
    refine a_top (nI (i + 1)) (nI_add i 1) ?_
    refine a_scrGet C hS dL_law_888 (by omega) (by omega) ?_
    refine a_hp xCM ?_
    refine a_callV C dL_law_889 cv_X7_allocateRest tb1145 (m_X7_allocateRest hflags hI (fun _ => mRok_of hG hi24 hb)) rfl rfl xM_0 rfl (Nat.le_of_ble_eq_true rfl) ⟨Nat.le_of_ble_eq_true rfl, Nat.le_of_ble_eq_true rfl⟩ ⟨(bud1 (c := 1) hq hk (by decide) hle1 hle2).2, (bud2 (c := 6) hq hns (by decide) hle1 hle2).2⟩ (fun _ h => h.elim) xav_no (fun _ _ h => h.elim) (fun r2 hp2 hq2 => ?_)
    obtain ⟨rfl, rfl⟩ := hq2
    refine a_loc [(0, .ref 908), (1, .ref 0), (2, .ref 200), (3, .ref 230), (4, .int (nI i)), (5, .int (((o_allocateRest nc ni np nl (xs (i + 1)) n f g)).2.1 0))] (xsub_cons rfl (xsub_cons rfl (xsub_cons rfl (xsub_cons rfl (xsub_cons rfl (xsub_cons rfl (xsub_nil))))))) ?_
    exact l_tail hflags C (p0 := 892) dL_law_892 dL_law_894 dL_law_895 dL_law_898 dL_law_900 dL_law_905 dL_law_907 dL_law_910 dL_law_911 dL_law_912 dL_law_913 dL_law_915 dL_law_916 dL_law_917 dL_law_922 (by decide) (bud1 (c := 1) hq hk (by decide) hle1 hle2).2 (bud2 (c := 6) hq hns (by decide) hle1 hle2).2 (fun _ => e1) (a_hp xCM.symm (next o2 _ _ _ _ _ _ _ jc2 jr2 _ _ (hS9.1 hc) (bud1 (c := 1) hq hk (by decide) hle1 hle2).1 (bud2 (c := 6) hq hns (by decide) hle1 hle2).1))
  · refine a_aload_n (i := 1) C dL_law_869 rfl rfl ?_
    refine a_aload_n (i := 0) C dL_law_870 rfl rfl ?_
    refine a_iload (i := 4) C dL_law_871 rfl ?_
    refine a_iconst (v := 1) C dL_law_873 (by decide) ?_
    refine a_iadd C dL_law_874 ?_
    refine a_top (nI (i + 1)) (nI_add i 1) ?_
    refine a_scrGet C hS dL_law_875 (by omega) (by omega) ?_
    refine a_aload_n (i := 3) C dL_law_876 rfl rfl ?_
    refine a_callSN (na := 3) C hN dL_law_877 ⟨tb696, tb46, tb697, ⟨by decide, by decide, by decide +kernel⟩⟩ tb695 (n_allocateRest hflags (o9 := o9) hB hc) rfl rfl (Nat.le_of_ble_eq_true rfl) ⟨Nat.le_of_ble_eq_true rfl, Nat.le_of_ble_eq_true rfl⟩ ⟨(bud3 (c := 1) hq hk (by decide)).2, (bud4 (c := 6) hq hns (by decide)).2⟩ (fun _ h => h.elim) xav_no (fun r1 hp1 hq1 => ?_)
    obtain ⟨rfl, o2, jc2, jr2, -, hF⟩ := hq1
    obtain rfl := hF hc
    refine a_istore (i := 5) C dL_law_880 (by decide) ?_
    refine a_aload_n (i := 2) C dL_law_882 rfl rfl ?_
    refine a_aload_n (i := 0) C dL_law_883 rfl rfl ?_
    refine a_iload (i := 4) C dL_law_884 rfl ?_
    refine a_iconst (v := 1) C dL_law_886 (by decide) ?_
    refine a_iadd C dL_law_887 ?_
    refine a_top (nI (i + 1)) (nI_add i 1) ?_
    refine a_scrGet C hS dL_law_888 (by omega) (by omega) ?_
    refine a_hp xCM ?_
    refine a_callV C dL_law_889 cv_X7_allocateRest tb1145 (m_X7_allocateRest hflags hI (fun _ => mRok_of hG hi24 hb)) rfl rfl xM_0 rfl (Nat.le_of_ble_eq_true rfl) ⟨Nat.le_of_ble_eq_true rfl, Nat.le_of_ble_eq_true rfl⟩ ⟨(bud3 (c := 1) hq hk (by decide)).2, (bud4 (c := 6) hq hns (by decide)).2⟩ (fun _ h => h.elim) xav_no (fun _ _ h => h.elim) (fun r2 hp2 hq2 => ?_)
    obtain ⟨rfl, rfl⟩ := hq2
    refine a_loc [(0, .ref 908), (1, .ref 0), (2, .ref 200), (3, .ref 230), (4, .int (nI i)), (5, .int (((o_allocateRest nc ni np nl (xs (i + 1)) n f g)).2.1 0))] (xsub_cons rfl (xsub_cons rfl (xsub_cons rfl (xsub_cons rfl (xsub_cons rfl (xsub_cons rfl (xsub_nil))))))) ?_
    obtain ⟨eF, eG, e1, hJ2⟩ := hS9.2 hc
    refine l_tail hflags C (p0 := 892) dL_law_892 dL_law_894 dL_law_895 dL_law_898 dL_law_900 dL_law_905 dL_law_907 dL_law_910 dL_law_911 dL_law_912 dL_law_913 dL_law_915 dL_law_916 dL_law_917 dL_law_922 (by decide) (bud3 (c := 1) hq hk (by decide)).2 (bud4 (c := 6) hq hns (by decide)).2 (fun z => absurd z hc) ?_
    refine a_hp (show _ = xC (xM (xOut o2) ((o_allocateRest nc ni np nl (xs (i + 1)) n f g)).2.1 f g) nc ni np nl (((o_allocateRest nc ni np nl (xs (i + 1)) n f g)).2.1 1) f g jc2 jr2 by rw [eF, eG, e1, xCM]) ?_
    exact next o2 _ _ _ _ _ _ _ jc2 jr2 _ _ hJ2 (bud3 (c := 1) hq hk (by decide)).1 (bud4 (c := 6) hq hns (by decide)).1
set_option maxRecDepth 100000 in
set_option maxHeartbeats 4000000 in
theorem lc_release {E : xEnv} {l : Launch} {N0 : Nat} {D : va_G} {dT : Nat → ClassId} {ret : Option FieldType} {tab : List ExceptionTableEntry} (hflags : l.stackTraces = false) (C : aC E l N0 D dT cL_law "ReceivablesBookLaw" 7 ret tab room_1 nwLaw) (hN : xNcE E) {Ln i q9 : Nat} {xs : Nat → Int32} (hS : xScr Ln xs E) (hLn : Ln ≤ 2048) (hi : i + 4 ≤ Ln) (hq : q9 < 512) {o9 : Int64} {n : Nat → Int32} {f : Nat → Nat → Int32} {g : Nat → Nat → Int64} {nc ni np nl : Nat} {jc : Nat → Nat → Int32} {jr : Nat → Int64} {k ns : Nat} (hJ : JI n f g nc ni np nl q9) (hk : k ≤ 34 + 8 * q9 + 2 * lGen nl) (hns : ns ≤ 33300 + 100 * q9 + 4 * lCap nl) (next : ∀ (o : Int64) (n : Nat → Int32) (f : Nat → Nat → Int32) (g : Nat → Nat → Int64) (nc ni np nl : Nat) (jc : Nat → Nat → Int32) (jr : Nat → Int64) (k ns : Nat), JI n f g nc ni np nl (q9 + 1) → k ≤ 34 + 8 * (q9 + 1) + 2 * lGen nl → ns ≤ 33300 + 100 * (q9 + 1) + 4 * lCap nl → aW E k ns (xC (xM (xOut o) n f g) nc ni np nl (n 1) f g jc jr) 2412 [(0, .ref 908), (1, .ref 0), (2, .ref 200), (3, .ref 230), (4, .int (nI i))] []) : aW E k ns (xC (xM (xOut o9) n f g) nc ni np nl (n 1) f g jc jr) 925 [(0, .ref 908), (1, .ref 0), (2, .ref 200), (3, .ref 230), (4, .int (nI i))] [] := by
  have hnl := JI_nl hJ (by omega)
  obtain ⟨hI, ⟨t9, ht, ht2, hG⟩, hLl⟩ := id hJ
  obtain ⟨-, -, -, -, hc6, hi24, hp24, hl16⟩ := id hI
  have hB : nc ≤ 6 ∧ ni ≤ 24 ∧ np ≤ 24 ∧ nl ≤ 16000 := ⟨hc6, hi24, hp24, hl16⟩
  have h21 : ∀ p i, p < np → i < ni → 0 < f 22 (24 * p + i) → f 21 p = 0 := fun p i hp hi h => Classical.byContradiction fun z => absurd h (by rw [(hG.2.2.2.1.2.2.2.2 p hp z).2 i hi]; decide)
  have h22 : ∀ p i, p < np → i < ni → 0 ≤ f 22 (24 * p + i) := fun p i hp hi => i32_le.mpr (by rw [i32_z]; exact hG.2.2.2.1.2.2.2.1 p i hp hi)
  have hOw := xow_lt hG.1.1 hc6
  have hPw := pow_lt hG.1.2.1 hc6
  have hS9 : sP n f g nc ni np nl q9 (nc) (ni) (np) ((mWl nl (f 22 (24 * (xs (i + 1)).toNatClampNeg + (xs (i + 2)).toNatClampNeg)))) ((o_release ni np nl (xs (i + 1)) (xs (i + 2)) n f g)) := (S_release hJ (by omega))
  by_cases hc : ((o_release ni np nl (xs (i + 1)) (xs (i + 2)) n f g)).2.1 0 = 0
  · have hle1 : nl ≤ (mWl nl (f 22 (24 * (xs (i + 1)).toNatClampNeg + (xs (i + 2)).toNatClampNeg))) := mWl_1.2
    have hle2 := (hS9.1 hc).1.2.2.2.2.2.2.2
    refine a_aload_n (i := 1) C dL_law_925 rfl rfl ?_
    refine a_aload_n (i := 0) C dL_law_926 rfl rfl ?_
    refine a_iload (i := 4) C dL_law_927 rfl ?_
    refine a_iconst (v := 1) C dL_law_929 (by decide) ?_
    refine a_iadd C dL_law_930 ?_
    refine a_top (nI (i + 1)) (nI_add i 1) ?_
    refine a_scrGet C hS dL_law_931 (by omega) (by omega) ?_
    refine a_aload_n (i := 0) C dL_law_932 rfl rfl ?_
    refine a_iload (i := 4) C dL_law_933 rfl ?_
    refine a_iconst (v := 2) C dL_law_935 (by decide) ?_
    refine a_iadd C dL_law_936 ?_
    refine a_top (nI (i + 2)) (nI_add i 2) ?_
    refine a_scrGet C hS dL_law_937 (by omega) (by omega) ?_
    refine a_aload_n (i := 3) C dL_law_938 rfl rfl ?_
    refine a_callSN (na := 4) C hN dL_law_939 ⟨tb703, tb46, tb704, ⟨by decide, by decide, by decide +kernel⟩⟩ tb702 (w_release hflags (o9 := o9) hB h22 h21 (by omega) hOw hPw) rfl rfl (Nat.le_of_ble_eq_true rfl) ⟨Nat.le_of_ble_eq_true rfl, Nat.le_of_ble_eq_true rfl⟩ ⟨(bud1 (c := 2) hq hk (by decide) hle1 hle2).2, (bud2 (c := 12) hq hns (by decide) hle1 hle2).2⟩ (fun j h => Nat.lt_of_le_of_lt h.2 (by decide)) ⟨fun q hq j hj => (by simp only [List.mem_cons, List.not_mem_nil, or_false] at hq; rcases hq with rfl | rfl | rfl | rfl | rfl <;> first | exact Value.noConfusion hj | exact xnwD_law (by decide) (Value.ref.inj hj)), fun v hv => nomatch hv⟩ (fun r1 hp1 hq1 => ?_)
    obtain ⟨rfl, o2, jc2, jr2, hA, -⟩ := hq1
    obtain ⟨e1, rfl⟩ := hA hc
    refine a_istore (i := 5) C dL_law_942 (by decide) ?_
    refine a_aload_n (i := 2) C dL_law_944 rfl rfl ?_
    refine a_aload_n (i := 0) C dL_law_945 rfl rfl ?_
    refine a_iload (i := 4) C dL_law_946 rfl ?_
    refine a_iconst (v := 1) C dL_law_948 (by decide) ?_
    refine a_iadd C dL_law_949 ?_
    refine a_top (nI (i + 1)) (nI_add i 1) ?_
    refine a_scrGet C hS dL_law_950 (by omega) (by omega) ?_
    refine a_aload_n (i := 0) C dL_law_951 rfl rfl ?_
    refine a_iload (i := 4) C dL_law_952 rfl ?_
    refine a_iconst (v := 2) C dL_law_954 (by decide) ?_
    refine a_iadd C dL_law_955 ?_
    refine a_top (nI (i + 2)) (nI_add i 2) ?_
    refine a_scrGet C hS dL_law_956 (by omega) (by omega) ?_
    refine a_hp xCM ?_
    refine a_callV C dL_law_957 cv_X7_release tb1153 (m_X7_release hflags hI (by omega)) rfl rfl xM_0 rfl (Nat.le_of_ble_eq_true rfl) ⟨Nat.le_of_ble_eq_true rfl, Nat.le_of_ble_eq_true rfl⟩ ⟨(bud1 (c := 2) hq hk (by decide) hle1 hle2).2, (bud2 (c := 12) hq hns (by decide) hle1 hle2).2⟩ (fun _ h => h.elim) xav_no (fun _ _ h => h.elim) (fun r2 hp2 hq2 => ?_)
    obtain ⟨rfl, rfl⟩ := hq2
    refine a_loc [(0, .ref 908), (1, .ref 0), (2, .ref 200), (3, .ref 230), (4, .int (nI i)), (5, .int (((o_release ni np nl (xs (i + 1)) (xs (i + 2)) n f g)).2.1 0))] (xsub_cons rfl (xsub_cons rfl (xsub_cons rfl (xsub_cons rfl (xsub_cons rfl (xsub_cons rfl (xsub_nil))))))) ?_
    exact l_tail hflags C (p0 := 960) dL_law_960 dL_law_962 dL_law_963 dL_law_966 dL_law_968 dL_law_973 dL_law_975 dL_law_978 dL_law_979 dL_law_980 dL_law_981 dL_law_983 dL_law_984 dL_law_985 dL_law_990 (by decide) (bud1 (c := 2) hq hk (by decide) hle1 hle2).2 (bud2 (c := 12) hq hns (by decide) hle1 hle2).2 (fun _ => e1) (a_hp xCM.symm (next o2 _ _ _ _ _ _ _ jc2 jr2 _ _ (hS9.1 hc) (bud1 (c := 2) hq hk (by decide) hle1 hle2).1 (bud2 (c := 12) hq hns (by decide) hle1 hle2).1))
  · refine a_aload_n (i := 1) C dL_law_925 rfl rfl ?_
    refine a_aload_n (i := 0) C dL_law_926 rfl rfl ?_
    refine a_iload (i := 4) C dL_law_927 rfl ?_
    refine a_iconst (v := 1) C dL_law_929 (by decide) ?_
    refine a_iadd C dL_law_930 ?_
    refine a_top (nI (i + 1)) (nI_add i 1) ?_
    refine a_scrGet C hS dL_law_931 (by omega) (by omega) ?_
    refine a_aload_n (i := 0) C dL_law_932 rfl rfl ?_
    refine a_iload (i := 4) C dL_law_933 rfl ?_
    refine a_iconst (v := 2) C dL_law_935 (by decide) ?_
    refine a_iadd C dL_law_936 ?_
    refine a_top (nI (i + 2)) (nI_add i 2) ?_
    refine a_scrGet C hS dL_law_937 (by omega) (by omega) ?_
    refine a_aload_n (i := 3) C dL_law_938 rfl rfl ?_
    refine a_callSN (na := 4) C hN dL_law_939 ⟨tb703, tb46, tb704, ⟨by decide, by decide, by decide +kernel⟩⟩ tb702 (n_release hflags (o9 := o9) hB hc) rfl rfl (Nat.le_of_ble_eq_true rfl) ⟨Nat.le_of_ble_eq_true rfl, Nat.le_of_ble_eq_true rfl⟩ ⟨(bud3 (c := 2) hq hk (by decide)).2, (bud4 (c := 12) hq hns (by decide)).2⟩ (fun _ h => h.elim) xav_no (fun r1 hp1 hq1 => ?_)
    obtain ⟨rfl, o2, jc2, jr2, -, hF⟩ := hq1
    obtain rfl := hF hc
    refine a_istore (i := 5) C dL_law_942 (by decide) ?_
    refine a_aload_n (i := 2) C dL_law_944 rfl rfl ?_
    refine a_aload_n (i := 0) C dL_law_945 rfl rfl ?_
    refine a_iload (i := 4) C dL_law_946 rfl ?_
    refine a_iconst (v := 1) C dL_law_948 (by decide) ?_
    refine a_iadd C dL_law_949 ?_
    refine a_top (nI (i + 1)) (nI_add i 1) ?_
    refine a_scrGet C hS dL_law_950 (by omega) (by omega) ?_
    refine a_aload_n (i := 0) C dL_law_951 rfl rfl ?_
    refine a_iload (i := 4) C dL_law_952 rfl ?_
    refine a_iconst (v := 2) C dL_law_954 (by decide) ?_
    refine a_iadd C dL_law_955 ?_
    refine a_top (nI (i + 2)) (nI_add i 2) ?_
    refine a_scrGet C hS dL_law_956 (by omega) (by omega) ?_
    refine a_hp xCM ?_
    refine a_callV C dL_law_957 cv_X7_release tb1153 (m_X7_release hflags hI (by omega)) rfl rfl xM_0 rfl (Nat.le_of_ble_eq_true rfl) ⟨Nat.le_of_ble_eq_true rfl, Nat.le_of_ble_eq_true rfl⟩ ⟨(bud3 (c := 2) hq hk (by decide)).2, (bud4 (c := 12) hq hns (by decide)).2⟩ (fun _ h => h.elim) xav_no (fun _ _ h => h.elim) (fun r2 hp2 hq2 => ?_)
    obtain ⟨rfl, rfl⟩ := hq2
    refine a_loc [(0, .ref 908), (1, .ref 0), (2, .ref 200), (3, .ref 230), (4, .int (nI i)), (5, .int (((o_release ni np nl (xs (i + 1)) (xs (i + 2)) n f g)).2.1 0))] (xsub_cons rfl (xsub_cons rfl (xsub_cons rfl (xsub_cons rfl (xsub_cons rfl (xsub_cons rfl (xsub_nil))))))) ?_
    obtain ⟨eF, eG, e1, hJ2⟩ := hS9.2 hc
    refine l_tail hflags C (p0 := 960) dL_law_960 dL_law_962 dL_law_963 dL_law_966 dL_law_968 dL_law_973 dL_law_975 dL_law_978 dL_law_979 dL_law_980 dL_law_981 dL_law_983 dL_law_984 dL_law_985 dL_law_990 (by decide) (bud3 (c := 2) hq hk (by decide)).2 (bud4 (c := 12) hq hns (by decide)).2 (fun z => absurd z hc) ?_
    refine a_hp (show _ = xC (xM (xOut o2) ((o_release ni np nl (xs (i + 1)) (xs (i + 2)) n f g)).2.1 f g) nc ni np nl (((o_release ni np nl (xs (i + 1)) (xs (i + 2)) n f g)).2.1 1) f g jc2 jr2 by rw [eF, eG, e1, xCM]) ?_
    exact next o2 _ _ _ _ _ _ _ jc2 jr2 _ _ hJ2 (bud3 (c := 2) hq hk (by decide)).1 (bud4 (c := 12) hq hns (by decide)).1
set_option maxRecDepth 100000 in
set_option maxHeartbeats 4000000 in
theorem lc_reverse {E : xEnv} {l : Launch} {N0 : Nat} {D : va_G} {dT : Nat → ClassId} {ret : Option FieldType} {tab : List ExceptionTableEntry} (hflags : l.stackTraces = false) (C : aC E l N0 D dT cL_law "ReceivablesBookLaw" 7 ret tab room_1 nwLaw) (hN : xNcE E) {Ln i q9 : Nat} {xs : Nat → Int32} (hS : xScr Ln xs E) (hLn : Ln ≤ 2048) (hi : i + 4 ≤ Ln) (hq : q9 < 512) {o9 : Int64} {n : Nat → Int32} {f : Nat → Nat → Int32} {g : Nat → Nat → Int64} {nc ni np nl : Nat} {jc : Nat → Nat → Int32} {jr : Nat → Int64} {k ns : Nat} (hJ : JI n f g nc ni np nl q9) (hk : k ≤ 34 + 8 * q9 + 2 * lGen nl) (hns : ns ≤ 33300 + 100 * q9 + 4 * lCap nl) (next : ∀ (o : Int64) (n : Nat → Int32) (f : Nat → Nat → Int32) (g : Nat → Nat → Int64) (nc ni np nl : Nat) (jc : Nat → Nat → Int32) (jr : Nat → Int64) (k ns : Nat), JI n f g nc ni np nl (q9 + 1) → k ≤ 34 + 8 * (q9 + 1) + 2 * lGen nl → ns ≤ 33300 + 100 * (q9 + 1) + 4 * lCap nl → aW E k ns (xC (xM (xOut o) n f g) nc ni np nl (n 1) f g jc jr) 2412 [(0, .ref 908), (1, .ref 0), (2, .ref 200), (3, .ref 230), (4, .int (nI i))] []) : aW E k ns (xC (xM (xOut o9) n f g) nc ni np nl (n 1) f g jc jr) 993 [(0, .ref 908), (1, .ref 0), (2, .ref 200), (3, .ref 230), (4, .int (nI i))] [] := by
  have hnl := JI_nl hJ (by omega)
  obtain ⟨hI, ⟨t9, ht, ht2, hG⟩, hLl⟩ := id hJ
  obtain ⟨-, -, -, -, hc6, hi24, hp24, hl16⟩ := id hI
  have hB : nc ≤ 6 ∧ ni ≤ 24 ∧ np ≤ 24 ∧ nl ≤ 16000 := ⟨hc6, hi24, hp24, hl16⟩
  have h22 : ∀ p i, p < np → i < ni → 0 ≤ f 22 (24 * p + i) := fun p i hp hi => i32_le.mpr (by rw [i32_z]; exact hG.2.2.2.1.2.2.2.1 p i hp hi)
  have hOw := xow_lt hG.1.1 hc6
  have hPw := pow_lt hG.1.2.1 hc6
  have hS9 : sP n f g nc ni np nl q9 (nc) (ni) (np) (((mVS (xs (i + 1)).toNatClampNeg nl (nup n 0 0) f ni).2.1)) ((o_reverse ni np nl (xs (i + 1)) n f g)) := (S_reverse hJ (by omega))
  by_cases hc : ((o_reverse ni np nl (xs (i + 1)) n f g)).2.1 0 = 0
  · have hle1 : nl ≤ ((mVS (xs (i + 1)).toNatClampNeg nl (nup n 0 0) f ni).2.1) := (mVS_mono (i := 0) ni (Nat.zero_le ni))
    have hle2 := (hS9.1 hc).1.2.2.2.2.2.2.2
    refine a_aload_n (i := 1) C dL_law_993 rfl rfl ?_
    refine a_aload_n (i := 0) C dL_law_994 rfl rfl ?_
    refine a_iload (i := 4) C dL_law_995 rfl ?_
    refine a_iconst (v := 1) C dL_law_997 (by decide) ?_
    refine a_iadd C dL_law_998 ?_
    refine a_top (nI (i + 1)) (nI_add i 1) ?_
    refine a_scrGet C hS dL_law_999 (by omega) (by omega) ?_
    refine a_aload_n (i := 3) C dL_law_1000 rfl rfl ?_
    refine a_callSN (na := 3) C hN dL_law_1001 ⟨tb722, tb46, tb723, ⟨by decide, by decide, by decide +kernel⟩⟩ tb721 (w_reverse hflags (o9 := o9) hB h22 hOw hPw (fun _ k hk => by have := mVS_le (p := (xs (i + 1)).toNatClampNeg) (nl := nl) (n := nup n 0 0) (f := f) k; omega)) rfl rfl (Nat.le_of_ble_eq_true rfl) ⟨Nat.le_of_ble_eq_true rfl, Nat.le_of_ble_eq_true rfl⟩ ⟨(bud1 (c := 2) hq hk (by decide) hle1 hle2).2, (bud2 (c := 12) hq hns (by decide) hle1 hle2).2⟩ (fun j h => Nat.lt_of_le_of_lt h.2 (by decide)) ⟨fun q hq j hj => (by simp only [List.mem_cons, List.not_mem_nil, or_false] at hq; rcases hq with rfl | rfl | rfl | rfl | rfl <;> first | exact Value.noConfusion hj | exact xnwD_law (by decide) (Value.ref.inj hj)), fun v hv => nomatch hv⟩ (fun r1 hp1 hq1 => ?_)
    obtain ⟨rfl, o2, jc2, jr2, hA, -⟩ := hq1
    obtain ⟨e1, rfl⟩ := hA hc
    refine a_istore (i := 5) C dL_law_1004 (by decide) ?_
    refine a_aload_n (i := 2) C dL_law_1006 rfl rfl ?_
    refine a_aload_n (i := 0) C dL_law_1007 rfl rfl ?_
    refine a_iload (i := 4) C dL_law_1008 rfl ?_
    refine a_iconst (v := 1) C dL_law_1010 (by decide) ?_
    refine a_iadd C dL_law_1011 ?_
    refine a_top (nI (i + 1)) (nI_add i 1) ?_
    refine a_scrGet C hS dL_law_1012 (by omega) (by omega) ?_
    refine a_hp xCM ?_
    refine a_callV C dL_law_1013 cv_X7_reverse tb1161 (m_X7_reverse hflags hI (fun _ k hk => by have := mVS_le (p := (xs (i + 1)).toNatClampNeg) (nl := nl) (n := nup n 0 0) (f := f) k; omega)) rfl rfl xM_0 rfl (Nat.le_of_ble_eq_true rfl) ⟨Nat.le_of_ble_eq_true rfl, Nat.le_of_ble_eq_true rfl⟩ ⟨(bud1 (c := 2) hq hk (by decide) hle1 hle2).2, (bud2 (c := 12) hq hns (by decide) hle1 hle2).2⟩ (fun _ h => h.elim) xav_no (fun _ _ h => h.elim) (fun r2 hp2 hq2 => ?_)
    obtain ⟨rfl, rfl⟩ := hq2
    refine a_loc [(0, .ref 908), (1, .ref 0), (2, .ref 200), (3, .ref 230), (4, .int (nI i)), (5, .int (((o_reverse ni np nl (xs (i + 1)) n f g)).2.1 0))] (xsub_cons rfl (xsub_cons rfl (xsub_cons rfl (xsub_cons rfl (xsub_cons rfl (xsub_cons rfl (xsub_nil))))))) ?_
    exact l_tail hflags C (p0 := 1016) dL_law_1016 dL_law_1018 dL_law_1019 dL_law_1022 dL_law_1024 dL_law_1029 dL_law_1031 dL_law_1034 dL_law_1035 dL_law_1036 dL_law_1037 dL_law_1039 dL_law_1040 dL_law_1041 dL_law_1046 (by decide) (bud1 (c := 2) hq hk (by decide) hle1 hle2).2 (bud2 (c := 12) hq hns (by decide) hle1 hle2).2 (fun _ => e1) (a_hp xCM.symm (next o2 _ _ _ _ _ _ _ jc2 jr2 _ _ (hS9.1 hc) (bud1 (c := 2) hq hk (by decide) hle1 hle2).1 (bud2 (c := 12) hq hns (by decide) hle1 hle2).1))
  · refine a_aload_n (i := 1) C dL_law_993 rfl rfl ?_
    refine a_aload_n (i := 0) C dL_law_994 rfl rfl ?_
    refine a_iload (i := 4) C dL_law_995 rfl ?_
    refine a_iconst (v := 1) C dL_law_997 (by decide) ?_
    refine a_iadd C dL_law_998 ?_
    refine a_top (nI (i + 1)) (nI_add i 1) ?_
    refine a_scrGet C hS dL_law_999 (by omega) (by omega) ?_
    refine a_aload_n (i := 3) C dL_law_1000 rfl rfl ?_
    refine a_callSN (na := 3) C hN dL_law_1001 ⟨tb722, tb46, tb723, ⟨by decide, by decide, by decide +kernel⟩⟩ tb721 (n_reverse hflags (o9 := o9) hB hc) rfl rfl (Nat.le_of_ble_eq_true rfl) ⟨Nat.le_of_ble_eq_true rfl, Nat.le_of_ble_eq_true rfl⟩ ⟨(bud3 (c := 2) hq hk (by decide)).2, (bud4 (c := 12) hq hns (by decide)).2⟩ (fun _ h => h.elim) xav_no (fun r1 hp1 hq1 => ?_)
    obtain ⟨rfl, o2, jc2, jr2, -, hF⟩ := hq1
    obtain rfl := hF hc
    refine a_istore (i := 5) C dL_law_1004 (by decide) ?_
    refine a_aload_n (i := 2) C dL_law_1006 rfl rfl ?_
    refine a_aload_n (i := 0) C dL_law_1007 rfl rfl ?_
    refine a_iload (i := 4) C dL_law_1008 rfl ?_
    refine a_iconst (v := 1) C dL_law_1010 (by decide) ?_
    refine a_iadd C dL_law_1011 ?_
    refine a_top (nI (i + 1)) (nI_add i 1) ?_
    refine a_scrGet C hS dL_law_1012 (by omega) (by omega) ?_
    refine a_hp xCM ?_
    refine a_callV C dL_law_1013 cv_X7_reverse tb1161 (m_X7_reverse hflags hI (fun _ k hk => by have := mVS_le (p := (xs (i + 1)).toNatClampNeg) (nl := nl) (n := nup n 0 0) (f := f) k; omega)) rfl rfl xM_0 rfl (Nat.le_of_ble_eq_true rfl) ⟨Nat.le_of_ble_eq_true rfl, Nat.le_of_ble_eq_true rfl⟩ ⟨(bud3 (c := 2) hq hk (by decide)).2, (bud4 (c := 12) hq hns (by decide)).2⟩ (fun _ h => h.elim) xav_no (fun _ _ h => h.elim) (fun r2 hp2 hq2 => ?_)
    obtain ⟨rfl, rfl⟩ := hq2
    refine a_loc [(0, .ref 908), (1, .ref 0), (2, .ref 200), (3, .ref 230), (4, .int (nI i)), (5, .int (((o_reverse ni np nl (xs (i + 1)) n f g)).2.1 0))] (xsub_cons rfl (xsub_cons rfl (xsub_cons rfl (xsub_cons rfl (xsub_cons rfl (xsub_cons rfl (xsub_nil))))))) ?_
    obtain ⟨eF, eG, e1, hJ2⟩ := hS9.2 hc
    refine l_tail hflags C (p0 := 1016) dL_law_1016 dL_law_1018 dL_law_1019 dL_law_1022 dL_law_1024 dL_law_1029 dL_law_1031 dL_law_1034 dL_law_1035 dL_law_1036 dL_law_1037 dL_law_1039 dL_law_1040 dL_law_1041 dL_law_1046 (by decide) (bud3 (c := 2) hq hk (by decide)).2 (bud4 (c := 12) hq hns (by decide)).2 (fun z => absurd z hc) ?_
    refine a_hp (show _ = xC (xM (xOut o2) ((o_reverse ni np nl (xs (i + 1)) n f g)).2.1 f g) nc ni np nl (((o_reverse ni np nl (xs (i + 1)) n f g)).2.1 1) f g jc2 jr2 by rw [eF, eG, e1, xCM]) ?_
    exact next o2 _ _ _ _ _ _ _ jc2 jr2 _ _ hJ2 (bud3 (c := 2) hq hk (by decide)).1 (bud4 (c := 12) hq hns (by decide)).1
set_option maxRecDepth 100000 in
set_option maxHeartbeats 4000000 in
theorem lc_dispute {E : xEnv} {l : Launch} {N0 : Nat} {D : va_G} {dT : Nat → ClassId} {ret : Option FieldType} {tab : List ExceptionTableEntry} (hflags : l.stackTraces = false) (C : aC E l N0 D dT cL_law "ReceivablesBookLaw" 7 ret tab room_1 nwLaw) (hN : xNcE E) {Ln i q9 : Nat} {xs : Nat → Int32} (hS : xScr Ln xs E) (hLn : Ln ≤ 2048) (hi : i + 4 ≤ Ln) (hq : q9 < 512) {o9 : Int64} {n : Nat → Int32} {f : Nat → Nat → Int32} {g : Nat → Nat → Int64} {nc ni np nl : Nat} {jc : Nat → Nat → Int32} {jr : Nat → Int64} {k ns : Nat} (hJ : JI n f g nc ni np nl q9) (hk : k ≤ 34 + 8 * q9 + 2 * lGen nl) (hns : ns ≤ 33300 + 100 * q9 + 4 * lCap nl) (next : ∀ (o : Int64) (n : Nat → Int32) (f : Nat → Nat → Int32) (g : Nat → Nat → Int64) (nc ni np nl : Nat) (jc : Nat → Nat → Int32) (jr : Nat → Int64) (k ns : Nat), JI n f g nc ni np nl (q9 + 1) → k ≤ 34 + 8 * (q9 + 1) + 2 * lGen nl → ns ≤ 33300 + 100 * (q9 + 1) + 4 * lCap nl → aW E k ns (xC (xM (xOut o) n f g) nc ni np nl (n 1) f g jc jr) 2412 [(0, .ref 908), (1, .ref 0), (2, .ref 200), (3, .ref 230), (4, .int (nI i))] []) : aW E k ns (xC (xM (xOut o9) n f g) nc ni np nl (n 1) f g jc jr) 1049 [(0, .ref 908), (1, .ref 0), (2, .ref 200), (3, .ref 230), (4, .int (nI i))] [] := by
  have hnl := JI_nl hJ (by omega)
  obtain ⟨hI, ⟨t9, ht, ht2, hG⟩, hLl⟩ := id hJ
  obtain ⟨-, -, -, -, hc6, hi24, hp24, hl16⟩ := id hI
  have hB : nc ≤ 6 ∧ ni ≤ 24 ∧ np ≤ 24 ∧ nl ≤ 16000 := ⟨hc6, hi24, hp24, hl16⟩
  have hS9 : sP n f g nc ni np nl q9 (nc) (ni) (np) (nl) ((o_dispute ni (xs (i + 1)) (xs (i + 2)) n f g)) := (S_dispute hJ (by omega))
  refine a_aload_n (i := 1) C dL_law_1049 rfl rfl ?_
  refine a_aload_n (i := 0) C dL_law_1050 rfl rfl ?_
  refine a_iload (i := 4) C dL_law_1051 rfl ?_
  refine a_iconst (v := 1) C dL_law_1053 (by decide) ?_
  refine a_iadd C dL_law_1054 ?_
  refine a_top (nI (i + 1)) (nI_add i 1) ?_
  refine a_scrGet C hS dL_law_1055 (by omega) (by omega) ?_
  refine a_aload_n (i := 0) C dL_law_1056 rfl rfl ?_
  refine a_iload (i := 4) C dL_law_1057 rfl ?_
  refine a_iconst (v := 2) C dL_law_1059 (by decide) ?_
  refine a_iadd C dL_law_1060 ?_
  refine a_top (nI (i + 2)) (nI_add i 2) ?_
  refine a_scrGet C hS dL_law_1061 (by omega) (by omega) ?_
  refine a_aload_n (i := 3) C dL_law_1062 rfl rfl ?_
  refine a_callSN (na := 4) C hN dL_law_1063 ⟨tb729, tb46, tb730, ⟨by decide, by decide, by decide +kernel⟩⟩ tb728 (w_dispute hflags (o9 := o9) hB ) rfl rfl (Nat.le_of_ble_eq_true rfl) ⟨Nat.le_of_ble_eq_true rfl, Nat.le_of_ble_eq_true rfl⟩ ⟨(bud3 (c := 3) hq hk (by decide)).2, (bud4 (c := 18) hq hns (by decide)).2⟩ (fun _ h => h.elim) xav_no (fun r1 hp1 hq1 => ?_)
  by_cases hc : ((o_dispute ni (xs (i + 1)) (xs (i + 2)) n f g)).2.1 0 = 0
  · obtain ⟨rfl, o2, jc2, jr2, hA, -⟩ := hq1
    obtain ⟨e1, rfl⟩ := hA hc
    refine a_istore (i := 5) C dL_law_1066 (by decide) ?_
    refine a_aload_n (i := 2) C dL_law_1068 rfl rfl ?_
    refine a_aload_n (i := 0) C dL_law_1069 rfl rfl ?_
    refine a_iload (i := 4) C dL_law_1070 rfl ?_
    refine a_iconst (v := 1) C dL_law_1072 (by decide) ?_
    refine a_iadd C dL_law_1073 ?_
    refine a_top (nI (i + 1)) (nI_add i 1) ?_
    refine a_scrGet C hS dL_law_1074 (by omega) (by omega) ?_
    refine a_aload_n (i := 0) C dL_law_1075 rfl rfl ?_
    refine a_iload (i := 4) C dL_law_1076 rfl ?_
    refine a_iconst (v := 2) C dL_law_1078 (by decide) ?_
    refine a_iadd C dL_law_1079 ?_
    refine a_top (nI (i + 2)) (nI_add i 2) ?_
    refine a_scrGet C hS dL_law_1080 (by omega) (by omega) ?_
    refine a_hp xCM ?_
    refine a_callV C dL_law_1081 cv_X7_dispute tb1165 (m_X7_dispute hflags hI) rfl rfl xM_0 rfl (Nat.le_of_ble_eq_true rfl) ⟨Nat.le_of_ble_eq_true rfl, Nat.le_of_ble_eq_true rfl⟩ ⟨(bud3 (c := 3) hq hk (by decide)).2, (bud4 (c := 18) hq hns (by decide)).2⟩ (fun _ h => h.elim) xav_no (fun _ _ h => h.elim) (fun r2 hp2 hq2 => ?_)
    obtain ⟨rfl, rfl⟩ := hq2
    refine a_loc [(0, .ref 908), (1, .ref 0), (2, .ref 200), (3, .ref 230), (4, .int (nI i)), (5, .int (((o_dispute ni (xs (i + 1)) (xs (i + 2)) n f g)).2.1 0))] (xsub_cons rfl (xsub_cons rfl (xsub_cons rfl (xsub_cons rfl (xsub_cons rfl (xsub_cons rfl (xsub_nil))))))) ?_
    exact l_tail hflags C (p0 := 1084) dL_law_1084 dL_law_1086 dL_law_1087 dL_law_1090 dL_law_1092 dL_law_1097 dL_law_1099 dL_law_1102 dL_law_1103 dL_law_1104 dL_law_1105 dL_law_1107 dL_law_1108 dL_law_1109 dL_law_1114 (by decide) (bud3 (c := 3) hq hk (by decide)).2 (bud4 (c := 18) hq hns (by decide)).2 (fun _ => e1) (a_hp xCM.symm (next o2 _ _ _ _ _ _ _ jc2 jr2 _ _ (hS9.1 hc) (bud3 (c := 3) hq hk (by decide)).1 (bud4 (c := 18) hq hns (by decide)).1))
  · obtain ⟨rfl, o2, jc2, jr2, -, hF⟩ := hq1
    obtain rfl := hF hc
    refine a_istore (i := 5) C dL_law_1066 (by decide) ?_
    refine a_aload_n (i := 2) C dL_law_1068 rfl rfl ?_
    refine a_aload_n (i := 0) C dL_law_1069 rfl rfl ?_
    refine a_iload (i := 4) C dL_law_1070 rfl ?_
    refine a_iconst (v := 1) C dL_law_1072 (by decide) ?_
    refine a_iadd C dL_law_1073 ?_
    refine a_top (nI (i + 1)) (nI_add i 1) ?_
    refine a_scrGet C hS dL_law_1074 (by omega) (by omega) ?_
    refine a_aload_n (i := 0) C dL_law_1075 rfl rfl ?_
    refine a_iload (i := 4) C dL_law_1076 rfl ?_
    refine a_iconst (v := 2) C dL_law_1078 (by decide) ?_
    refine a_iadd C dL_law_1079 ?_
    refine a_top (nI (i + 2)) (nI_add i 2) ?_
    refine a_scrGet C hS dL_law_1080 (by omega) (by omega) ?_
    refine a_hp xCM ?_
    refine a_callV C dL_law_1081 cv_X7_dispute tb1165 (m_X7_dispute hflags hI) rfl rfl xM_0 rfl (Nat.le_of_ble_eq_true rfl) ⟨Nat.le_of_ble_eq_true rfl, Nat.le_of_ble_eq_true rfl⟩ ⟨(bud3 (c := 3) hq hk (by decide)).2, (bud4 (c := 18) hq hns (by decide)).2⟩ (fun _ h => h.elim) xav_no (fun _ _ h => h.elim) (fun r2 hp2 hq2 => ?_)
    obtain ⟨rfl, rfl⟩ := hq2
    refine a_loc [(0, .ref 908), (1, .ref 0), (2, .ref 200), (3, .ref 230), (4, .int (nI i)), (5, .int (((o_dispute ni (xs (i + 1)) (xs (i + 2)) n f g)).2.1 0))] (xsub_cons rfl (xsub_cons rfl (xsub_cons rfl (xsub_cons rfl (xsub_cons rfl (xsub_cons rfl (xsub_nil))))))) ?_
    obtain ⟨eF, eG, e1, hJ2⟩ := hS9.2 hc
    refine l_tail hflags C (p0 := 1084) dL_law_1084 dL_law_1086 dL_law_1087 dL_law_1090 dL_law_1092 dL_law_1097 dL_law_1099 dL_law_1102 dL_law_1103 dL_law_1104 dL_law_1105 dL_law_1107 dL_law_1108 dL_law_1109 dL_law_1114 (by decide) (bud3 (c := 3) hq hk (by decide)).2 (bud4 (c := 18) hq hns (by decide)).2 (fun z => absurd z hc) ?_
    refine a_hp (show _ = xC (xM (xOut o2) ((o_dispute ni (xs (i + 1)) (xs (i + 2)) n f g)).2.1 f g) nc ni np nl (((o_dispute ni (xs (i + 1)) (xs (i + 2)) n f g)).2.1 1) f g jc2 jr2 by rw [eF, eG, e1, xCM]) ?_
    exact next o2 _ _ _ _ _ _ _ jc2 jr2 _ _ hJ2 (bud3 (c := 3) hq hk (by decide)).1 (bud4 (c := 18) hq hns (by decide)).1
set_option maxRecDepth 100000 in
set_option maxHeartbeats 4000000 in
theorem lc_disputeAll {E : xEnv} {l : Launch} {N0 : Nat} {D : va_G} {dT : Nat → ClassId} {ret : Option FieldType} {tab : List ExceptionTableEntry} (hflags : l.stackTraces = false) (C : aC E l N0 D dT cL_law "ReceivablesBookLaw" 7 ret tab room_1 nwLaw) (hN : xNcE E) {Ln i q9 : Nat} {xs : Nat → Int32} (hS : xScr Ln xs E) (hLn : Ln ≤ 2048) (hi : i + 4 ≤ Ln) (hq : q9 < 512) {o9 : Int64} {n : Nat → Int32} {f : Nat → Nat → Int32} {g : Nat → Nat → Int64} {nc ni np nl : Nat} {jc : Nat → Nat → Int32} {jr : Nat → Int64} {k ns : Nat} (hJ : JI n f g nc ni np nl q9) (hk : k ≤ 34 + 8 * q9 + 2 * lGen nl) (hns : ns ≤ 33300 + 100 * q9 + 4 * lCap nl) (next : ∀ (o : Int64) (n : Nat → Int32) (f : Nat → Nat → Int32) (g : Nat → Nat → Int64) (nc ni np nl : Nat) (jc : Nat → Nat → Int32) (jr : Nat → Int64) (k ns : Nat), JI n f g nc ni np nl (q9 + 1) → k ≤ 34 + 8 * (q9 + 1) + 2 * lGen nl → ns ≤ 33300 + 100 * (q9 + 1) + 4 * lCap nl → aW E k ns (xC (xM (xOut o) n f g) nc ni np nl (n 1) f g jc jr) 2412 [(0, .ref 908), (1, .ref 0), (2, .ref 200), (3, .ref 230), (4, .int (nI i))] []) : aW E k ns (xC (xM (xOut o9) n f g) nc ni np nl (n 1) f g jc jr) 1117 [(0, .ref 908), (1, .ref 0), (2, .ref 200), (3, .ref 230), (4, .int (nI i))] [] := by
  have hnl := JI_nl hJ (by omega)
  obtain ⟨hI, ⟨t9, ht, ht2, hG⟩, hLl⟩ := id hJ
  obtain ⟨-, -, -, -, hc6, hi24, hp24, hl16⟩ := id hI
  have hB : nc ≤ 6 ∧ ni ≤ 24 ∧ np ≤ 24 ∧ nl ≤ 16000 := ⟨hc6, hi24, hp24, hl16⟩
  have hOe := hG.1.1
  have hWz := JG_W hG
  have hS9 : sP n f g nc ni np nl q9 (nc) (ni) (np) (nl) ((o_disputeAll nc ni (xs (i + 1)) (xs (i + 2)) n f g)) := (S_disputeAll hJ (by omega))
  refine a_aload_n (i := 1) C dL_law_1117 rfl rfl ?_
  refine a_aload_n (i := 0) C dL_law_1118 rfl rfl ?_
  refine a_iload (i := 4) C dL_law_1119 rfl ?_
  refine a_iconst (v := 1) C dL_law_1121 (by decide) ?_
  refine a_iadd C dL_law_1122 ?_
  refine a_top (nI (i + 1)) (nI_add i 1) ?_
  refine a_scrGet C hS dL_law_1123 (by omega) (by omega) ?_
  refine a_aload_n (i := 0) C dL_law_1124 rfl rfl ?_
  refine a_iload (i := 4) C dL_law_1125 rfl ?_
  refine a_iconst (v := 2) C dL_law_1127 (by decide) ?_
  refine a_iadd C dL_law_1128 ?_
  refine a_top (nI (i + 2)) (nI_add i 2) ?_
  refine a_scrGet C hS dL_law_1129 (by omega) (by omega) ?_
  refine a_aload_n (i := 3) C dL_law_1130 rfl rfl ?_
  refine a_callSN (na := 4) C hN dL_law_1131 ⟨tb736, tb46, tb737, ⟨by decide, by decide, by decide +kernel⟩⟩ tb735 (w_disputeAll hflags (o9 := o9) hB hWz hOe) rfl rfl (Nat.le_of_ble_eq_true rfl) ⟨Nat.le_of_ble_eq_true rfl, Nat.le_of_ble_eq_true rfl⟩ ⟨(bud3 (c := 3) hq hk (by decide)).2, (bud4 (c := 18) hq hns (by decide)).2⟩ (fun _ h => h.elim) xav_no (fun r1 hp1 hq1 => ?_)
  by_cases hc : ((o_disputeAll nc ni (xs (i + 1)) (xs (i + 2)) n f g)).2.1 0 = 0
  · obtain ⟨rfl, o2, jc2, jr2, hA, -⟩ := hq1
    obtain ⟨e1, rfl⟩ := hA hc
    refine a_istore (i := 5) C dL_law_1134 (by decide) ?_
    refine a_aload_n (i := 2) C dL_law_1136 rfl rfl ?_
    refine a_aload_n (i := 0) C dL_law_1137 rfl rfl ?_
    refine a_iload (i := 4) C dL_law_1138 rfl ?_
    refine a_iconst (v := 1) C dL_law_1140 (by decide) ?_
    refine a_iadd C dL_law_1141 ?_
    refine a_top (nI (i + 1)) (nI_add i 1) ?_
    refine a_scrGet C hS dL_law_1142 (by omega) (by omega) ?_
    refine a_aload_n (i := 0) C dL_law_1143 rfl rfl ?_
    refine a_iload (i := 4) C dL_law_1144 rfl ?_
    refine a_iconst (v := 2) C dL_law_1146 (by decide) ?_
    refine a_iadd C dL_law_1147 ?_
    refine a_top (nI (i + 2)) (nI_add i 2) ?_
    refine a_scrGet C hS dL_law_1148 (by omega) (by omega) ?_
    refine a_hp xCM ?_
    refine a_callV C dL_law_1149 cv_X7_disputeAll tb1169 (m_X7_disputeAll hflags hI (fun _ => JG_all hG hi24 _)) rfl rfl xM_0 rfl (Nat.le_of_ble_eq_true rfl) ⟨Nat.le_of_ble_eq_true rfl, Nat.le_of_ble_eq_true rfl⟩ ⟨(bud3 (c := 3) hq hk (by decide)).2, (bud4 (c := 18) hq hns (by decide)).2⟩ (fun _ h => h.elim) xav_no (fun _ _ h => h.elim) (fun r2 hp2 hq2 => ?_)
    obtain ⟨rfl, rfl⟩ := hq2
    refine a_loc [(0, .ref 908), (1, .ref 0), (2, .ref 200), (3, .ref 230), (4, .int (nI i)), (5, .int (((o_disputeAll nc ni (xs (i + 1)) (xs (i + 2)) n f g)).2.1 0))] (xsub_cons rfl (xsub_cons rfl (xsub_cons rfl (xsub_cons rfl (xsub_cons rfl (xsub_cons rfl (xsub_nil))))))) ?_
    exact l_tail hflags C (p0 := 1152) dL_law_1152 dL_law_1154 dL_law_1155 dL_law_1158 dL_law_1160 dL_law_1165 dL_law_1167 dL_law_1170 dL_law_1171 dL_law_1172 dL_law_1173 dL_law_1175 dL_law_1176 dL_law_1177 dL_law_1182 (by decide) (bud3 (c := 3) hq hk (by decide)).2 (bud4 (c := 18) hq hns (by decide)).2 (fun _ => e1) (a_hp xCM.symm (next o2 _ _ _ _ _ _ _ jc2 jr2 _ _ (hS9.1 hc) (bud3 (c := 3) hq hk (by decide)).1 (bud4 (c := 18) hq hns (by decide)).1))
  · obtain ⟨rfl, o2, jc2, jr2, -, hF⟩ := hq1
    obtain rfl := hF hc
    refine a_istore (i := 5) C dL_law_1134 (by decide) ?_
    refine a_aload_n (i := 2) C dL_law_1136 rfl rfl ?_
    refine a_aload_n (i := 0) C dL_law_1137 rfl rfl ?_
    refine a_iload (i := 4) C dL_law_1138 rfl ?_
    refine a_iconst (v := 1) C dL_law_1140 (by decide) ?_
    refine a_iadd C dL_law_1141 ?_
    refine a_top (nI (i + 1)) (nI_add i 1) ?_
    refine a_scrGet C hS dL_law_1142 (by omega) (by omega) ?_
    refine a_aload_n (i := 0) C dL_law_1143 rfl rfl ?_
    refine a_iload (i := 4) C dL_law_1144 rfl ?_
    refine a_iconst (v := 2) C dL_law_1146 (by decide) ?_
    refine a_iadd C dL_law_1147 ?_
    refine a_top (nI (i + 2)) (nI_add i 2) ?_
    refine a_scrGet C hS dL_law_1148 (by omega) (by omega) ?_
    refine a_hp xCM ?_
    refine a_callV C dL_law_1149 cv_X7_disputeAll tb1169 (m_X7_disputeAll hflags hI (fun _ => JG_all hG hi24 _)) rfl rfl xM_0 rfl (Nat.le_of_ble_eq_true rfl) ⟨Nat.le_of_ble_eq_true rfl, Nat.le_of_ble_eq_true rfl⟩ ⟨(bud3 (c := 3) hq hk (by decide)).2, (bud4 (c := 18) hq hns (by decide)).2⟩ (fun _ h => h.elim) xav_no (fun _ _ h => h.elim) (fun r2 hp2 hq2 => ?_)
    obtain ⟨rfl, rfl⟩ := hq2
    refine a_loc [(0, .ref 908), (1, .ref 0), (2, .ref 200), (3, .ref 230), (4, .int (nI i)), (5, .int (((o_disputeAll nc ni (xs (i + 1)) (xs (i + 2)) n f g)).2.1 0))] (xsub_cons rfl (xsub_cons rfl (xsub_cons rfl (xsub_cons rfl (xsub_cons rfl (xsub_cons rfl (xsub_nil))))))) ?_
    obtain ⟨eF, eG, e1, hJ2⟩ := hS9.2 hc
    refine l_tail hflags C (p0 := 1152) dL_law_1152 dL_law_1154 dL_law_1155 dL_law_1158 dL_law_1160 dL_law_1165 dL_law_1167 dL_law_1170 dL_law_1171 dL_law_1172 dL_law_1173 dL_law_1175 dL_law_1176 dL_law_1177 dL_law_1182 (by decide) (bud3 (c := 3) hq hk (by decide)).2 (bud4 (c := 18) hq hns (by decide)).2 (fun z => absurd z hc) ?_
    refine a_hp (show _ = xC (xM (xOut o2) ((o_disputeAll nc ni (xs (i + 1)) (xs (i + 2)) n f g)).2.1 f g) nc ni np nl (((o_disputeAll nc ni (xs (i + 1)) (xs (i + 2)) n f g)).2.1 1) f g jc2 jr2 by rw [eF, eG, e1, xCM]) ?_
    exact next o2 _ _ _ _ _ _ _ jc2 jr2 _ _ hJ2 (bud3 (c := 3) hq hk (by decide)).1 (bud4 (c := 18) hq hns (by decide)).1
set_option maxRecDepth 100000 in
set_option maxHeartbeats 4000000 in
theorem lc_settle {E : xEnv} {l : Launch} {N0 : Nat} {D : va_G} {dT : Nat → ClassId} {ret : Option FieldType} {tab : List ExceptionTableEntry} (hflags : l.stackTraces = false) (C : aC E l N0 D dT cL_law "ReceivablesBookLaw" 7 ret tab room_1 nwLaw) (hN : xNcE E) {Ln i q9 : Nat} {xs : Nat → Int32} (hS : xScr Ln xs E) (hLn : Ln ≤ 2048) (hi : i + 4 ≤ Ln) (hq : q9 < 512) {o9 : Int64} {n : Nat → Int32} {f : Nat → Nat → Int32} {g : Nat → Nat → Int64} {nc ni np nl : Nat} {jc : Nat → Nat → Int32} {jr : Nat → Int64} {k ns : Nat} (hJ : JI n f g nc ni np nl q9) (hk : k ≤ 34 + 8 * q9 + 2 * lGen nl) (hns : ns ≤ 33300 + 100 * q9 + 4 * lCap nl) (next : ∀ (o : Int64) (n : Nat → Int32) (f : Nat → Nat → Int32) (g : Nat → Nat → Int64) (nc ni np nl : Nat) (jc : Nat → Nat → Int32) (jr : Nat → Int64) (k ns : Nat), JI n f g nc ni np nl (q9 + 1) → k ≤ 34 + 8 * (q9 + 1) + 2 * lGen nl → ns ≤ 33300 + 100 * (q9 + 1) + 4 * lCap nl → aW E k ns (xC (xM (xOut o) n f g) nc ni np nl (n 1) f g jc jr) 2412 [(0, .ref 908), (1, .ref 0), (2, .ref 200), (3, .ref 230), (4, .int (nI i))] []) : aW E k ns (xC (xM (xOut o9) n f g) nc ni np nl (n 1) f g jc jr) 1185 [(0, .ref 908), (1, .ref 0), (2, .ref 200), (3, .ref 230), (4, .int (nI i))] [] := by
  have hnl := JI_nl hJ (by omega)
  obtain ⟨hI, ⟨t9, ht, ht2, hG⟩, hLl⟩ := id hJ
  obtain ⟨-, -, -, -, hc6, hi24, hp24, hl16⟩ := id hI
  have hB : nc ≤ 6 ∧ ni ≤ 24 ∧ np ≤ 24 ∧ nl ≤ 16000 := ⟨hc6, hi24, hp24, hl16⟩
  have h14 : ∀ i, i < ni → 0 ≤ f 14 i := fun i hi => i32_le.mpr (by rw [i32_z]; exact (hG.2.2.2.1.1 i hi).1)
  have hOw := xow_lt hG.1.1 hc6
  have hPw := pow_lt hG.1.2.1 hc6
  have hS9 : sP n f g nc ni np nl q9 (nc) (ni) (np) ((mWl nl (-(xs (i + 2))))) ((o_settle ni nl (xs (i + 1)) (xs (i + 2)) n f g)) := (S_settle hJ (by omega))
  by_cases hc : ((o_settle ni nl (xs (i + 1)) (xs (i + 2)) n f g)).2.1 0 = 0
  · have hle1 : nl ≤ (mWl nl (-(xs (i + 2)))) := mWl_1.2
    have hle2 := (hS9.1 hc).1.2.2.2.2.2.2.2
    refine a_aload_n (i := 1) C dL_law_1185 rfl rfl ?_
    refine a_aload_n (i := 0) C dL_law_1186 rfl rfl ?_
    refine a_iload (i := 4) C dL_law_1187 rfl ?_
    refine a_iconst (v := 1) C dL_law_1189 (by decide) ?_
    refine a_iadd C dL_law_1190 ?_
    refine a_top (nI (i + 1)) (nI_add i 1) ?_
    refine a_scrGet C hS dL_law_1191 (by omega) (by omega) ?_
    refine a_aload_n (i := 0) C dL_law_1192 rfl rfl ?_
    refine a_iload (i := 4) C dL_law_1193 rfl ?_
    refine a_iconst (v := 2) C dL_law_1195 (by decide) ?_
    refine a_iadd C dL_law_1196 ?_
    refine a_top (nI (i + 2)) (nI_add i 2) ?_
    refine a_scrGet C hS dL_law_1197 (by omega) (by omega) ?_
    refine a_aload_n (i := 3) C dL_law_1198 rfl rfl ?_
    refine a_callSN (na := 4) C hN dL_law_1199 ⟨tb745, tb46, tb746, ⟨by decide, by decide, by decide +kernel⟩⟩ tb744 (w_settle hflags (o9 := o9) hB h14 (by omega) hOw hPw) rfl rfl (Nat.le_of_ble_eq_true rfl) ⟨Nat.le_of_ble_eq_true rfl, Nat.le_of_ble_eq_true rfl⟩ ⟨(bud1 (c := 2) hq hk (by decide) hle1 hle2).2, (bud2 (c := 12) hq hns (by decide) hle1 hle2).2⟩ (fun j h => Nat.lt_of_le_of_lt h.2 (by decide)) ⟨fun q hq j hj => (by simp only [List.mem_cons, List.not_mem_nil, or_false] at hq; rcases hq with rfl | rfl | rfl | rfl | rfl <;> first | exact Value.noConfusion hj | exact xnwD_law (by decide) (Value.ref.inj hj)), fun v hv => nomatch hv⟩ (fun r1 hp1 hq1 => ?_)
    obtain ⟨rfl, o2, jc2, jr2, hA, -⟩ := hq1
    obtain ⟨e1, rfl⟩ := hA hc
    refine a_istore (i := 5) C dL_law_1202 (by decide) ?_
    refine a_aload_n (i := 2) C dL_law_1204 rfl rfl ?_
    refine a_aload_n (i := 0) C dL_law_1205 rfl rfl ?_
    refine a_iload (i := 4) C dL_law_1206 rfl ?_
    refine a_iconst (v := 1) C dL_law_1208 (by decide) ?_
    refine a_iadd C dL_law_1209 ?_
    refine a_top (nI (i + 1)) (nI_add i 1) ?_
    refine a_scrGet C hS dL_law_1210 (by omega) (by omega) ?_
    refine a_aload_n (i := 0) C dL_law_1211 rfl rfl ?_
    refine a_iload (i := 4) C dL_law_1212 rfl ?_
    refine a_iconst (v := 2) C dL_law_1214 (by decide) ?_
    refine a_iadd C dL_law_1215 ?_
    refine a_top (nI (i + 2)) (nI_add i 2) ?_
    refine a_scrGet C hS dL_law_1216 (by omega) (by omega) ?_
    refine a_hp xCM ?_
    refine a_callV C dL_law_1217 cv_X7_settle tb1173 (m_X7_settle hflags hI (by omega)) rfl rfl xM_0 rfl (Nat.le_of_ble_eq_true rfl) ⟨Nat.le_of_ble_eq_true rfl, Nat.le_of_ble_eq_true rfl⟩ ⟨(bud1 (c := 2) hq hk (by decide) hle1 hle2).2, (bud2 (c := 12) hq hns (by decide) hle1 hle2).2⟩ (fun _ h => h.elim) xav_no (fun _ _ h => h.elim) (fun r2 hp2 hq2 => ?_)
    obtain ⟨rfl, rfl⟩ := hq2
    refine a_loc [(0, .ref 908), (1, .ref 0), (2, .ref 200), (3, .ref 230), (4, .int (nI i)), (5, .int (((o_settle ni nl (xs (i + 1)) (xs (i + 2)) n f g)).2.1 0))] (xsub_cons rfl (xsub_cons rfl (xsub_cons rfl (xsub_cons rfl (xsub_cons rfl (xsub_cons rfl (xsub_nil))))))) ?_
    exact l_tail hflags C (p0 := 1220) dL_law_1220 dL_law_1222 dL_law_1223 dL_law_1226 dL_law_1228 dL_law_1233 dL_law_1235 dL_law_1238 dL_law_1239 dL_law_1240 dL_law_1241 dL_law_1243 dL_law_1244 dL_law_1245 dL_law_1250 (by decide) (bud1 (c := 2) hq hk (by decide) hle1 hle2).2 (bud2 (c := 12) hq hns (by decide) hle1 hle2).2 (fun _ => e1) (a_hp xCM.symm (next o2 _ _ _ _ _ _ _ jc2 jr2 _ _ (hS9.1 hc) (bud1 (c := 2) hq hk (by decide) hle1 hle2).1 (bud2 (c := 12) hq hns (by decide) hle1 hle2).1))
  · refine a_aload_n (i := 1) C dL_law_1185 rfl rfl ?_
    refine a_aload_n (i := 0) C dL_law_1186 rfl rfl ?_
    refine a_iload (i := 4) C dL_law_1187 rfl ?_
    refine a_iconst (v := 1) C dL_law_1189 (by decide) ?_
    refine a_iadd C dL_law_1190 ?_
    refine a_top (nI (i + 1)) (nI_add i 1) ?_
    refine a_scrGet C hS dL_law_1191 (by omega) (by omega) ?_
    refine a_aload_n (i := 0) C dL_law_1192 rfl rfl ?_
    refine a_iload (i := 4) C dL_law_1193 rfl ?_
    refine a_iconst (v := 2) C dL_law_1195 (by decide) ?_
    refine a_iadd C dL_law_1196 ?_
    refine a_top (nI (i + 2)) (nI_add i 2) ?_
    refine a_scrGet C hS dL_law_1197 (by omega) (by omega) ?_
    refine a_aload_n (i := 3) C dL_law_1198 rfl rfl ?_
    refine a_callSN (na := 4) C hN dL_law_1199 ⟨tb745, tb46, tb746, ⟨by decide, by decide, by decide +kernel⟩⟩ tb744 (n_settle hflags (o9 := o9) hB h14 hc) rfl rfl (Nat.le_of_ble_eq_true rfl) ⟨Nat.le_of_ble_eq_true rfl, Nat.le_of_ble_eq_true rfl⟩ ⟨(bud3 (c := 3) hq hk (by decide)).2, (bud4 (c := 18) hq hns (by decide)).2⟩ (fun _ h => h.elim) xav_no (fun r1 hp1 hq1 => ?_)
    obtain ⟨rfl, o2, jc2, jr2, -, hF⟩ := hq1
    obtain rfl := hF hc
    refine a_istore (i := 5) C dL_law_1202 (by decide) ?_
    refine a_aload_n (i := 2) C dL_law_1204 rfl rfl ?_
    refine a_aload_n (i := 0) C dL_law_1205 rfl rfl ?_
    refine a_iload (i := 4) C dL_law_1206 rfl ?_
    refine a_iconst (v := 1) C dL_law_1208 (by decide) ?_
    refine a_iadd C dL_law_1209 ?_
    refine a_top (nI (i + 1)) (nI_add i 1) ?_
    refine a_scrGet C hS dL_law_1210 (by omega) (by omega) ?_
    refine a_aload_n (i := 0) C dL_law_1211 rfl rfl ?_
    refine a_iload (i := 4) C dL_law_1212 rfl ?_
    refine a_iconst (v := 2) C dL_law_1214 (by decide) ?_
    refine a_iadd C dL_law_1215 ?_
    refine a_top (nI (i + 2)) (nI_add i 2) ?_
    refine a_scrGet C hS dL_law_1216 (by omega) (by omega) ?_
    refine a_hp xCM ?_
    refine a_callV C dL_law_1217 cv_X7_settle tb1173 (m_X7_settle hflags hI (by omega)) rfl rfl xM_0 rfl (Nat.le_of_ble_eq_true rfl) ⟨Nat.le_of_ble_eq_true rfl, Nat.le_of_ble_eq_true rfl⟩ ⟨(bud3 (c := 3) hq hk (by decide)).2, (bud4 (c := 18) hq hns (by decide)).2⟩ (fun _ h => h.elim) xav_no (fun _ _ h => h.elim) (fun r2 hp2 hq2 => ?_)
    obtain ⟨rfl, rfl⟩ := hq2
    refine a_loc [(0, .ref 908), (1, .ref 0), (2, .ref 200), (3, .ref 230), (4, .int (nI i)), (5, .int (((o_settle ni nl (xs (i + 1)) (xs (i + 2)) n f g)).2.1 0))] (xsub_cons rfl (xsub_cons rfl (xsub_cons rfl (xsub_cons rfl (xsub_cons rfl (xsub_cons rfl (xsub_nil))))))) ?_
    obtain ⟨eF, eG, e1, hJ2⟩ := hS9.2 hc
    refine l_tail hflags C (p0 := 1220) dL_law_1220 dL_law_1222 dL_law_1223 dL_law_1226 dL_law_1228 dL_law_1233 dL_law_1235 dL_law_1238 dL_law_1239 dL_law_1240 dL_law_1241 dL_law_1243 dL_law_1244 dL_law_1245 dL_law_1250 (by decide) (bud3 (c := 3) hq hk (by decide)).2 (bud4 (c := 18) hq hns (by decide)).2 (fun z => absurd z hc) ?_
    refine a_hp (show _ = xC (xM (xOut o2) ((o_settle ni nl (xs (i + 1)) (xs (i + 2)) n f g)).2.1 f g) nc ni np nl (((o_settle ni nl (xs (i + 1)) (xs (i + 2)) n f g)).2.1 1) f g jc2 jr2 by rw [eF, eG, e1, xCM]) ?_
    exact next o2 _ _ _ _ _ _ _ jc2 jr2 _ _ hJ2 (bud3 (c := 3) hq hk (by decide)).1 (bud4 (c := 18) hq hns (by decide)).1
set_option maxRecDepth 100000 in
set_option maxHeartbeats 4000000 in
theorem lc_chargeInterest {E : xEnv} {l : Launch} {N0 : Nat} {D : va_G} {dT : Nat → ClassId} {ret : Option FieldType} {tab : List ExceptionTableEntry} (hflags : l.stackTraces = false) (C : aC E l N0 D dT cL_law "ReceivablesBookLaw" 7 ret tab room_1 nwLaw) (hN : xNcE E) {Ln i q9 : Nat} {xs : Nat → Int32} (hS : xScr Ln xs E) (hLn : Ln ≤ 2048) (hi : i + 4 ≤ Ln) (hq : q9 < 512) {o9 : Int64} {n : Nat → Int32} {f : Nat → Nat → Int32} {g : Nat → Nat → Int64} {nc ni np nl : Nat} {jc : Nat → Nat → Int32} {jr : Nat → Int64} {k ns : Nat} (hJ : JI n f g nc ni np nl q9) (hk : k ≤ 34 + 8 * q9 + 2 * lGen nl) (hns : ns ≤ 33300 + 100 * q9 + 4 * lCap nl) (next : ∀ (o : Int64) (n : Nat → Int32) (f : Nat → Nat → Int32) (g : Nat → Nat → Int64) (nc ni np nl : Nat) (jc : Nat → Nat → Int32) (jr : Nat → Int64) (k ns : Nat), JI n f g nc ni np nl (q9 + 1) → k ≤ 34 + 8 * (q9 + 1) + 2 * lGen nl → ns ≤ 33300 + 100 * (q9 + 1) + 4 * lCap nl → aW E k ns (xC (xM (xOut o) n f g) nc ni np nl (n 1) f g jc jr) 2412 [(0, .ref 908), (1, .ref 0), (2, .ref 200), (3, .ref 230), (4, .int (nI i))] []) : aW E k ns (xC (xM (xOut o9) n f g) nc ni np nl (n 1) f g jc jr) 1253 [(0, .ref 908), (1, .ref 0), (2, .ref 200), (3, .ref 230), (4, .int (nI i))] [] := by
  have hnl := JI_nl hJ (by omega)
  obtain ⟨hI, ⟨t9, ht, ht2, hG⟩, hLl⟩ := id hJ
  obtain ⟨-, -, -, -, hc6, hi24, hp24, hl16⟩ := id hI
  have hB : nc ≤ 6 ∧ ni ≤ 24 ∧ np ≤ 24 ∧ nl ≤ 16000 := ⟨hc6, hi24, hp24, hl16⟩
  have hO6 : ∀ i, i < ni → ∃ k, k < 6 ∧ f 10 i = nI k := fun i hi => by
    obtain ⟨k, k1, k2⟩ := hG.1.1 i hi
    exact ⟨k, by omega, k2⟩
  have hOe := hG.1.1
  have hPe := hG.1.2.1
  obtain ⟨z14, z17, z18, z15⟩ := hG.2.1.1 ni (Nat.le_refl ni)
  have hS9 : sP n f g nc ni np nl q9 (nc) ((if (xsum (xacs f g (xs (i + 1))) ni) = 0 then ni else ni + 1)) (np) ((mWl nl (xsum (xacs f g (xs (i + 1))) ni))) ((o_charge nc ni nl (xs (i + 1)) (xs (i + 2)) n f g)) := (S_chargeInterest hJ (by omega))
  by_cases hc : ((o_charge nc ni nl (xs (i + 1)) (xs (i + 2)) n f g)).2.1 0 = 0
  · have hle1 : nl ≤ (mWl nl (xsum (xacs f g (xs (i + 1))) ni)) := mWl_1.2
    have hle2 := (hS9.1 hc).1.2.2.2.2.2.2.2
    refine a_aload_n (i := 1) C dL_law_1253 rfl rfl ?_
    refine a_aload_n (i := 0) C dL_law_1254 rfl rfl ?_
    refine a_iload (i := 4) C dL_law_1255 rfl ?_
    refine a_iconst (v := 1) C dL_law_1257 (by decide) ?_
    refine a_iadd C dL_law_1258 ?_
    refine a_top (nI (i + 1)) (nI_add i 1) ?_
    refine a_scrGet C hS dL_law_1259 (by omega) (by omega) ?_
    refine a_aload_n (i := 0) C dL_law_1260 rfl rfl ?_
    refine a_iload (i := 4) C dL_law_1261 rfl ?_
    refine a_iconst (v := 2) C dL_law_1263 (by decide) ?_
    refine a_iadd C dL_law_1264 ?_
    refine a_top (nI (i + 2)) (nI_add i 2) ?_
    refine a_scrGet C hS dL_law_1265 (by omega) (by omega) ?_
    refine a_aload_n (i := 3) C dL_law_1266 rfl rfl ?_
    refine a_callSN (na := 4) C hN dL_law_1267 ⟨tb756, tb46, tb757, ⟨by decide, by decide, by decide +kernel⟩⟩ tb755 (w_chargeInterest hflags (o9 := o9) hB z14 z17 z18 z15 (by omega) (JI_acc hJ _) hOe hPe) rfl rfl (Nat.le_of_ble_eq_true rfl) ⟨Nat.le_of_ble_eq_true rfl, Nat.le_of_ble_eq_true rfl⟩ ⟨(bud1 (c := 6) hq hk (by decide) hle1 hle2).2, (bud2 (c := 67) hq hns (by decide) hle1 hle2).2⟩ (fun j h => xnwB_lt h) ⟨fun q hq j hj => (by simp only [List.mem_cons, List.not_mem_nil, or_false] at hq; rcases hq with rfl | rfl | rfl | rfl | rfl <;> first | exact Value.noConfusion hj | exact xnwB_law (by decide) (Value.ref.inj hj)), fun v hv => nomatch hv⟩ (fun r1 hp1 hq1 => ?_)
    obtain ⟨rfl, o2, jc2, jr2, hA, -⟩ := hq1
    obtain ⟨e1, rfl⟩ := hA hc
    refine a_istore (i := 5) C dL_law_1270 (by decide) ?_
    refine a_aload_n (i := 2) C dL_law_1272 rfl rfl ?_
    refine a_aload_n (i := 0) C dL_law_1273 rfl rfl ?_
    refine a_iload (i := 4) C dL_law_1274 rfl ?_
    refine a_iconst (v := 1) C dL_law_1276 (by decide) ?_
    refine a_iadd C dL_law_1277 ?_
    refine a_top (nI (i + 1)) (nI_add i 1) ?_
    refine a_scrGet C hS dL_law_1278 (by omega) (by omega) ?_
    refine a_aload_n (i := 0) C dL_law_1279 rfl rfl ?_
    refine a_iload (i := 4) C dL_law_1280 rfl ?_
    refine a_iconst (v := 2) C dL_law_1282 (by decide) ?_
    refine a_iadd C dL_law_1283 ?_
    refine a_top (nI (i + 2)) (nI_add i 2) ?_
    refine a_scrGet C hS dL_law_1284 (by omega) (by omega) ?_
    refine a_hp xCM ?_
    refine a_callV C dL_law_1285 cv_X7_chargeInterest tb1177 (m_X7_chargeInterest hflags hI (by omega) hO6 (fun _ => JI_acc hJ _)) rfl rfl xM_0 rfl (Nat.le_of_ble_eq_true rfl) ⟨Nat.le_of_ble_eq_true rfl, Nat.le_of_ble_eq_true rfl⟩ ⟨(bud1 (c := 6) hq hk (by decide) hle1 hle2).2, (bud2 (c := 67) hq hns (by decide) hle1 hle2).2⟩ (fun _ h => h.elim) xav_no (fun _ _ h => h.elim) (fun r2 hp2 hq2 => ?_)
    obtain ⟨rfl, rfl⟩ := hq2
    refine a_loc [(0, .ref 908), (1, .ref 0), (2, .ref 200), (3, .ref 230), (4, .int (nI i)), (5, .int (((o_charge nc ni nl (xs (i + 1)) (xs (i + 2)) n f g)).2.1 0))] (xsub_cons rfl (xsub_cons rfl (xsub_cons rfl (xsub_cons rfl (xsub_cons rfl (xsub_cons rfl (xsub_nil))))))) ?_
    exact l_tail hflags C (p0 := 1288) dL_law_1288 dL_law_1290 dL_law_1291 dL_law_1294 dL_law_1296 dL_law_1301 dL_law_1303 dL_law_1306 dL_law_1307 dL_law_1308 dL_law_1309 dL_law_1311 dL_law_1312 dL_law_1313 dL_law_1318 (by decide) (bud1 (c := 6) hq hk (by decide) hle1 hle2).2 (bud2 (c := 67) hq hns (by decide) hle1 hle2).2 (fun _ => e1) (a_hp xCM.symm (next o2 _ _ _ _ _ _ _ jc2 jr2 _ _ (hS9.1 hc) (bud1 (c := 6) hq hk (by decide) hle1 hle2).1 (bud2 (c := 67) hq hns (by decide) hle1 hle2).1))
  · refine a_aload_n (i := 1) C dL_law_1253 rfl rfl ?_
    refine a_aload_n (i := 0) C dL_law_1254 rfl rfl ?_
    refine a_iload (i := 4) C dL_law_1255 rfl ?_
    refine a_iconst (v := 1) C dL_law_1257 (by decide) ?_
    refine a_iadd C dL_law_1258 ?_
    refine a_top (nI (i + 1)) (nI_add i 1) ?_
    refine a_scrGet C hS dL_law_1259 (by omega) (by omega) ?_
    refine a_aload_n (i := 0) C dL_law_1260 rfl rfl ?_
    refine a_iload (i := 4) C dL_law_1261 rfl ?_
    refine a_iconst (v := 2) C dL_law_1263 (by decide) ?_
    refine a_iadd C dL_law_1264 ?_
    refine a_top (nI (i + 2)) (nI_add i 2) ?_
    refine a_scrGet C hS dL_law_1265 (by omega) (by omega) ?_
    refine a_aload_n (i := 3) C dL_law_1266 rfl rfl ?_
    refine a_callSN (na := 4) C hN dL_law_1267 ⟨tb756, tb46, tb757, ⟨by decide, by decide, by decide +kernel⟩⟩ tb755 (n_chargeInterest hflags (o9 := o9) hB (JI_acc hJ _) hOe hc) rfl rfl (Nat.le_of_ble_eq_true rfl) ⟨Nat.le_of_ble_eq_true rfl, Nat.le_of_ble_eq_true rfl⟩ ⟨(bud3 (c := 3) hq hk (by decide)).2, (bud4 (c := 18) hq hns (by decide)).2⟩ (fun _ h => h.elim) xav_no (fun r1 hp1 hq1 => ?_)
    obtain ⟨rfl, o2, jc2, jr2, -, hF⟩ := hq1
    obtain rfl := hF hc
    refine a_istore (i := 5) C dL_law_1270 (by decide) ?_
    refine a_aload_n (i := 2) C dL_law_1272 rfl rfl ?_
    refine a_aload_n (i := 0) C dL_law_1273 rfl rfl ?_
    refine a_iload (i := 4) C dL_law_1274 rfl ?_
    refine a_iconst (v := 1) C dL_law_1276 (by decide) ?_
    refine a_iadd C dL_law_1277 ?_
    refine a_top (nI (i + 1)) (nI_add i 1) ?_
    refine a_scrGet C hS dL_law_1278 (by omega) (by omega) ?_
    refine a_aload_n (i := 0) C dL_law_1279 rfl rfl ?_
    refine a_iload (i := 4) C dL_law_1280 rfl ?_
    refine a_iconst (v := 2) C dL_law_1282 (by decide) ?_
    refine a_iadd C dL_law_1283 ?_
    refine a_top (nI (i + 2)) (nI_add i 2) ?_
    refine a_scrGet C hS dL_law_1284 (by omega) (by omega) ?_
    refine a_hp xCM ?_
    refine a_callV C dL_law_1285 cv_X7_chargeInterest tb1177 (m_X7_chargeInterest hflags hI (by omega) hO6 (fun _ => JI_acc hJ _)) rfl rfl xM_0 rfl (Nat.le_of_ble_eq_true rfl) ⟨Nat.le_of_ble_eq_true rfl, Nat.le_of_ble_eq_true rfl⟩ ⟨(bud3 (c := 3) hq hk (by decide)).2, (bud4 (c := 18) hq hns (by decide)).2⟩ (fun _ h => h.elim) xav_no (fun _ _ h => h.elim) (fun r2 hp2 hq2 => ?_)
    obtain ⟨rfl, rfl⟩ := hq2
    refine a_loc [(0, .ref 908), (1, .ref 0), (2, .ref 200), (3, .ref 230), (4, .int (nI i)), (5, .int (((o_charge nc ni nl (xs (i + 1)) (xs (i + 2)) n f g)).2.1 0))] (xsub_cons rfl (xsub_cons rfl (xsub_cons rfl (xsub_cons rfl (xsub_cons rfl (xsub_cons rfl (xsub_nil))))))) ?_
    obtain ⟨eF, eG, e1, hJ2⟩ := hS9.2 hc
    refine l_tail hflags C (p0 := 1288) dL_law_1288 dL_law_1290 dL_law_1291 dL_law_1294 dL_law_1296 dL_law_1301 dL_law_1303 dL_law_1306 dL_law_1307 dL_law_1308 dL_law_1309 dL_law_1311 dL_law_1312 dL_law_1313 dL_law_1318 (by decide) (bud3 (c := 3) hq hk (by decide)).2 (bud4 (c := 18) hq hns (by decide)).2 (fun z => absurd z hc) ?_
    refine a_hp (show _ = xC (xM (xOut o2) ((o_charge nc ni nl (xs (i + 1)) (xs (i + 2)) n f g)).2.1 f g) nc ni np nl (((o_charge nc ni nl (xs (i + 1)) (xs (i + 2)) n f g)).2.1 1) f g jc2 jr2 by rw [eF, eG, e1, xCM]) ?_
    exact next o2 _ _ _ _ _ _ _ jc2 jr2 _ _ hJ2 (bud3 (c := 3) hq hk (by decide)).1 (bud4 (c := 18) hq hns (by decide)).1
set_option maxRecDepth 100000 in
set_option maxHeartbeats 4000000 in
theorem lc_accrued {E : xEnv} {l : Launch} {N0 : Nat} {D : va_G} {dT : Nat → ClassId} {ret : Option FieldType} {tab : List ExceptionTableEntry} (hflags : l.stackTraces = false) (C : aC E l N0 D dT cL_law "ReceivablesBookLaw" 7 ret tab room_1 nwLaw) (hN : xNcE E) {Ln i q9 : Nat} {xs : Nat → Int32} (hS : xScr Ln xs E) (hLn : Ln ≤ 2048) (hi : i + 4 ≤ Ln) (hq : q9 < 512) {o9 : Int64} {n : Nat → Int32} {f : Nat → Nat → Int32} {g : Nat → Nat → Int64} {nc ni np nl : Nat} {jc : Nat → Nat → Int32} {jr : Nat → Int64} {k ns : Nat} (hJ : JI n f g nc ni np nl q9) (hk : k ≤ 34 + 8 * q9 + 2 * lGen nl) (hns : ns ≤ 33300 + 100 * q9 + 4 * lCap nl) (next : ∀ (o : Int64) (n : Nat → Int32) (f : Nat → Nat → Int32) (g : Nat → Nat → Int64) (nc ni np nl : Nat) (jc : Nat → Nat → Int32) (jr : Nat → Int64) (k ns : Nat), JI n f g nc ni np nl (q9 + 1) → k ≤ 34 + 8 * (q9 + 1) + 2 * lGen nl → ns ≤ 33300 + 100 * (q9 + 1) + 4 * lCap nl → aW E k ns (xC (xM (xOut o) n f g) nc ni np nl (n 1) f g jc jr) 2412 [(0, .ref 908), (1, .ref 0), (2, .ref 200), (3, .ref 230), (4, .int (nI i))] []) : aW E k ns (xC (xM (xOut o9) n f g) nc ni np nl (n 1) f g jc jr) 1321 [(0, .ref 908), (1, .ref 0), (2, .ref 200), (3, .ref 230), (4, .int (nI i))] [] := by
  have hnl := JI_nl hJ (by omega)
  obtain ⟨hI, ⟨t9, ht, ht2, hG⟩, hLl⟩ := id hJ
  obtain ⟨-, -, -, -, hc6, hi24, hp24, hl16⟩ := id hI
  have hB : nc ≤ 6 ∧ ni ≤ 24 ∧ np ≤ 24 ∧ nl ≤ 16000 := ⟨hc6, hi24, hp24, hl16⟩
  have hO6 : ∀ i, i < ni → ∃ k, k < 6 ∧ f 10 i = nI k := fun i hi => by
    obtain ⟨k, k1, k2⟩ := hG.1.1 i hi
    exact ⟨k, by omega, k2⟩
  have hOw := xow_lt hG.1.1 hc6
  have hS9 : sP n f g nc ni np nl q9 (nc) (ni) (np) (nl) ((oRd (xin (xs (i + 1)) ni) (xac f g (xs (i + 1)).toNatClampNeg) n f g)) := (sP_rd hJ)
  refine a_aload_n (i := 1) C dL_law_1321 rfl rfl ?_
  refine a_aload_n (i := 0) C dL_law_1322 rfl rfl ?_
  refine a_iload (i := 4) C dL_law_1323 rfl ?_
  refine a_iconst (v := 1) C dL_law_1325 (by decide) ?_
  refine a_iadd C dL_law_1326 ?_
  refine a_top (nI (i + 1)) (nI_add i 1) ?_
  refine a_scrGet C hS dL_law_1327 (by omega) (by omega) ?_
  refine a_aload_n (i := 3) C dL_law_1328 rfl rfl ?_
  refine a_callSN (na := 3) C hN dL_law_1329 ⟨tb784, tb46, tb785, ⟨by decide, by decide, by decide +kernel⟩⟩ tb783 (w_accrued hflags (o9 := o9) hB hOw) rfl rfl (Nat.le_of_ble_eq_true rfl) ⟨Nat.le_of_ble_eq_true rfl, Nat.le_of_ble_eq_true rfl⟩ ⟨(bud3 (c := 1) hq hk (by decide)).2, (bud4 (c := 6) hq hns (by decide)).2⟩ (fun _ h => h.elim) xav_no (fun r1 hp1 hq1 => ?_)
  by_cases hc : ((oRd (xin (xs (i + 1)) ni) (xac f g (xs (i + 1)).toNatClampNeg) n f g)).2.1 0 = 0
  · obtain ⟨rfl, o2, jc2, jr2, hA, -⟩ := hq1
    obtain ⟨e1, rfl⟩ := hA hc
    refine a_istore (i := 5) C dL_law_1332 (by decide) ?_
    refine a_aload_n (i := 2) C dL_law_1334 rfl rfl ?_
    refine a_aload_n (i := 0) C dL_law_1335 rfl rfl ?_
    refine a_iload (i := 4) C dL_law_1336 rfl ?_
    refine a_iconst (v := 1) C dL_law_1338 (by decide) ?_
    refine a_iadd C dL_law_1339 ?_
    refine a_top (nI (i + 1)) (nI_add i 1) ?_
    refine a_scrGet C hS dL_law_1340 (by omega) (by omega) ?_
    refine a_hp xCM ?_
    refine a_callV C dL_law_1341 cv_X7_accrued tb1189 (m_X7_accrued hflags hI hO6) rfl rfl xM_0 rfl (Nat.le_of_ble_eq_true rfl) ⟨Nat.le_of_ble_eq_true rfl, Nat.le_of_ble_eq_true rfl⟩ ⟨(bud3 (c := 1) hq hk (by decide)).2, (bud4 (c := 6) hq hns (by decide)).2⟩ (fun _ h => h.elim) xav_no (fun _ _ h => h.elim) (fun r2 hp2 hq2 => ?_)
    obtain ⟨rfl, rfl⟩ := hq2
    refine a_loc [(0, .ref 908), (1, .ref 0), (2, .ref 200), (3, .ref 230), (4, .int (nI i)), (5, .int (((oRd (xin (xs (i + 1)) ni) (xac f g (xs (i + 1)).toNatClampNeg) n f g)).2.1 0))] (xsub_cons rfl (xsub_cons rfl (xsub_cons rfl (xsub_cons rfl (xsub_cons rfl (xsub_cons rfl (xsub_nil))))))) ?_
    exact l_tail hflags C (p0 := 1344) dL_law_1344 dL_law_1346 dL_law_1347 dL_law_1350 dL_law_1352 dL_law_1357 dL_law_1359 dL_law_1362 dL_law_1363 dL_law_1364 dL_law_1365 dL_law_1367 dL_law_1368 dL_law_1369 dL_law_1374 (by decide) (bud3 (c := 1) hq hk (by decide)).2 (bud4 (c := 6) hq hns (by decide)).2 (fun _ => e1) (a_hp xCM.symm (next o2 _ _ _ _ _ _ _ jc2 jr2 _ _ (hS9.1 hc) (bud3 (c := 1) hq hk (by decide)).1 (bud4 (c := 6) hq hns (by decide)).1))
  · obtain ⟨rfl, o2, jc2, jr2, -, hF⟩ := hq1
    obtain rfl := hF hc
    refine a_istore (i := 5) C dL_law_1332 (by decide) ?_
    refine a_aload_n (i := 2) C dL_law_1334 rfl rfl ?_
    refine a_aload_n (i := 0) C dL_law_1335 rfl rfl ?_
    refine a_iload (i := 4) C dL_law_1336 rfl ?_
    refine a_iconst (v := 1) C dL_law_1338 (by decide) ?_
    refine a_iadd C dL_law_1339 ?_
    refine a_top (nI (i + 1)) (nI_add i 1) ?_
    refine a_scrGet C hS dL_law_1340 (by omega) (by omega) ?_
    refine a_hp xCM ?_
    refine a_callV C dL_law_1341 cv_X7_accrued tb1189 (m_X7_accrued hflags hI hO6) rfl rfl xM_0 rfl (Nat.le_of_ble_eq_true rfl) ⟨Nat.le_of_ble_eq_true rfl, Nat.le_of_ble_eq_true rfl⟩ ⟨(bud3 (c := 1) hq hk (by decide)).2, (bud4 (c := 6) hq hns (by decide)).2⟩ (fun _ h => h.elim) xav_no (fun _ _ h => h.elim) (fun r2 hp2 hq2 => ?_)
    obtain ⟨rfl, rfl⟩ := hq2
    refine a_loc [(0, .ref 908), (1, .ref 0), (2, .ref 200), (3, .ref 230), (4, .int (nI i)), (5, .int (((oRd (xin (xs (i + 1)) ni) (xac f g (xs (i + 1)).toNatClampNeg) n f g)).2.1 0))] (xsub_cons rfl (xsub_cons rfl (xsub_cons rfl (xsub_cons rfl (xsub_cons rfl (xsub_cons rfl (xsub_nil))))))) ?_
    obtain ⟨eF, eG, e1, hJ2⟩ := hS9.2 hc
    refine l_tail hflags C (p0 := 1344) dL_law_1344 dL_law_1346 dL_law_1347 dL_law_1350 dL_law_1352 dL_law_1357 dL_law_1359 dL_law_1362 dL_law_1363 dL_law_1364 dL_law_1365 dL_law_1367 dL_law_1368 dL_law_1369 dL_law_1374 (by decide) (bud3 (c := 1) hq hk (by decide)).2 (bud4 (c := 6) hq hns (by decide)).2 (fun z => absurd z hc) ?_
    refine a_hp (show _ = xC (xM (xOut o2) ((oRd (xin (xs (i + 1)) ni) (xac f g (xs (i + 1)).toNatClampNeg) n f g)).2.1 f g) nc ni np nl (((oRd (xin (xs (i + 1)) ni) (xac f g (xs (i + 1)).toNatClampNeg) n f g)).2.1 1) f g jc2 jr2 by rw [eF, eG, e1, xCM]) ?_
    exact next o2 _ _ _ _ _ _ _ jc2 jr2 _ _ hJ2 (bud3 (c := 1) hq hk (by decide)).1 (bud4 (c := 6) hq hns (by decide)).1
set_option maxRecDepth 100000 in
set_option maxHeartbeats 4000000 in
theorem lc_isInterest {E : xEnv} {l : Launch} {N0 : Nat} {D : va_G} {dT : Nat → ClassId} {ret : Option FieldType} {tab : List ExceptionTableEntry} (hflags : l.stackTraces = false) (C : aC E l N0 D dT cL_law "ReceivablesBookLaw" 7 ret tab room_1 nwLaw) (hN : xNcE E) {Ln i q9 : Nat} {xs : Nat → Int32} (hS : xScr Ln xs E) (hLn : Ln ≤ 2048) (hi : i + 4 ≤ Ln) (hq : q9 < 512) {o9 : Int64} {n : Nat → Int32} {f : Nat → Nat → Int32} {g : Nat → Nat → Int64} {nc ni np nl : Nat} {jc : Nat → Nat → Int32} {jr : Nat → Int64} {k ns : Nat} (hJ : JI n f g nc ni np nl q9) (hk : k ≤ 34 + 8 * q9 + 2 * lGen nl) (hns : ns ≤ 33300 + 100 * q9 + 4 * lCap nl) (next : ∀ (o : Int64) (n : Nat → Int32) (f : Nat → Nat → Int32) (g : Nat → Nat → Int64) (nc ni np nl : Nat) (jc : Nat → Nat → Int32) (jr : Nat → Int64) (k ns : Nat), JI n f g nc ni np nl (q9 + 1) → k ≤ 34 + 8 * (q9 + 1) + 2 * lGen nl → ns ≤ 33300 + 100 * (q9 + 1) + 4 * lCap nl → aW E k ns (xC (xM (xOut o) n f g) nc ni np nl (n 1) f g jc jr) 2412 [(0, .ref 908), (1, .ref 0), (2, .ref 200), (3, .ref 230), (4, .int (nI i))] []) : aW E k ns (xC (xM (xOut o9) n f g) nc ni np nl (n 1) f g jc jr) 1377 [(0, .ref 908), (1, .ref 0), (2, .ref 200), (3, .ref 230), (4, .int (nI i))] [] := by
  have hnl := JI_nl hJ (by omega)
  obtain ⟨hI, ⟨t9, ht, ht2, hG⟩, hLl⟩ := id hJ
  obtain ⟨-, -, -, -, hc6, hi24, hp24, hl16⟩ := id hI
  have hB : nc ≤ 6 ∧ ni ≤ 24 ∧ np ≤ 24 ∧ nl ≤ 16000 := ⟨hc6, hi24, hp24, hl16⟩
  have hZ16 := hG.2.2.1.2
  have hS9 : sP n f g nc ni np nl q9 (nc) (ni) (np) (nl) ((oRd (xin (xs (i + 1)) ni) (bI (¬ f 16 (xs (i + 1)).toNatClampNeg = 0)) n f g)) := (sP_rd hJ)
  refine a_aload_n (i := 1) C dL_law_1377 rfl rfl ?_
  refine a_aload_n (i := 0) C dL_law_1378 rfl rfl ?_
  refine a_iload (i := 4) C dL_law_1379 rfl ?_
  refine a_iconst (v := 1) C dL_law_1381 (by decide) ?_
  refine a_iadd C dL_law_1382 ?_
  refine a_top (nI (i + 1)) (nI_add i 1) ?_
  refine a_scrGet C hS dL_law_1383 (by omega) (by omega) ?_
  refine a_aload_n (i := 3) C dL_law_1384 rfl rfl ?_
  refine a_callSN (na := 3) C hN dL_law_1385 ⟨tb791, tb46, tb792, ⟨by decide, by decide, by decide +kernel⟩⟩ tb790 (w_isInterest hflags (o9 := o9) hB hZ16) rfl rfl (Nat.le_of_ble_eq_true rfl) ⟨Nat.le_of_ble_eq_true rfl, Nat.le_of_ble_eq_true rfl⟩ ⟨(bud3 (c := 1) hq hk (by decide)).2, (bud4 (c := 6) hq hns (by decide)).2⟩ (fun _ h => h.elim) xav_no (fun r1 hp1 hq1 => ?_)
  by_cases hc : ((oRd (xin (xs (i + 1)) ni) (bI (¬ f 16 (xs (i + 1)).toNatClampNeg = 0)) n f g)).2.1 0 = 0
  · obtain ⟨rfl, o2, jc2, jr2, hA, -⟩ := hq1
    obtain ⟨e1, rfl⟩ := hA hc
    refine a_istore (i := 5) C dL_law_1388 (by decide) ?_
    refine a_aload_n (i := 2) C dL_law_1390 rfl rfl ?_
    refine a_aload_n (i := 0) C dL_law_1391 rfl rfl ?_
    refine a_iload (i := 4) C dL_law_1392 rfl ?_
    refine a_iconst (v := 1) C dL_law_1394 (by decide) ?_
    refine a_iadd C dL_law_1395 ?_
    refine a_top (nI (i + 1)) (nI_add i 1) ?_
    refine a_scrGet C hS dL_law_1396 (by omega) (by omega) ?_
    refine a_hp xCM ?_
    refine a_callV C dL_law_1397 cv_X7_isInterest tb1197 (m_X7_isInterest hflags hI) rfl rfl xM_0 rfl (Nat.le_of_ble_eq_true rfl) ⟨Nat.le_of_ble_eq_true rfl, Nat.le_of_ble_eq_true rfl⟩ ⟨(bud3 (c := 1) hq hk (by decide)).2, (bud4 (c := 6) hq hns (by decide)).2⟩ (fun _ h => h.elim) xav_no (fun _ _ h => h.elim) (fun r2 hp2 hq2 => ?_)
    obtain ⟨rfl, rfl⟩ := hq2
    refine a_loc [(0, .ref 908), (1, .ref 0), (2, .ref 200), (3, .ref 230), (4, .int (nI i)), (5, .int (((oRd (xin (xs (i + 1)) ni) (bI (¬ f 16 (xs (i + 1)).toNatClampNeg = 0)) n f g)).2.1 0))] (xsub_cons rfl (xsub_cons rfl (xsub_cons rfl (xsub_cons rfl (xsub_cons rfl (xsub_cons rfl (xsub_nil))))))) ?_
    refine a_istore (i := 6) C dL_law_1400 (by decide) ?_
    refine a_aload_n (i := 2) C dL_law_1402 rfl rfl ?_
    refine a_callV C dL_law_1403 cv_X7_thrown tb1021 (m_X7_thrown hflags) rfl rfl xM_0 rfl (Nat.le_of_ble_eq_true rfl) ⟨Nat.le_of_ble_eq_true rfl, Nat.le_of_ble_eq_true rfl⟩ ⟨(bud3 (c := 1) hq hk (by decide)).2, (bud4 (c := 6) hq hns (by decide)).2⟩ (fun _ h => h.elim) xav_no (fun _ _ h => h.elim) (fun r3 hp3 hq3 => ?_)
    obtain ⟨rfl, rfl⟩ := hq3
    refine a_iload (i := 5) C dL_law_1406 rfl ?_
    refine a_icmp_eq (tgt := 1413) C dL_law_1408 (by decide) (fun _ => ?_) (fun z => absurd rfl z)
    refine a_iload (i := 5) C dL_law_1413 rfl ?_
    refine a_if_ne (tgt := 1437) C dL_law_1415 (by decide) (fun z => absurd hc z) (fun _ => ?_)
    refine a_aload_n (i := 3) C dL_law_1418 rfl rfl ?_
    refine a_iconst (v := 0) C dL_law_1419 (by decide) ?_
    refine a_laldI (i := 0) C dL_law_1420 (xM_of_230 (o := o2) rfl) ⟨by decide, by decide⟩ ?_
    refine a_iload (i := 6) C dL_law_1421 rfl ?_
    have fin : ∀ L, xsub [(0, .ref 908), (1, .ref 0), (2, .ref 200), (3, .ref 230), (4, .int (nI i))] L → aW E _ _ _ 1437 L [] := fun L hL => a_goto (tgt := 2412) C dL_law_1437 (by decide) (a_loc _ hL (a_hp xCM.symm (next o2 _ _ _ _ _ _ _ jc2 jr2 _ _ (hS9.1 hc) (bud3 (c := 1) hq hk (by decide)).1 (bud4 (c := 6) hq hns (by decide)).1)))
    refine a_if_eq (tgt := 1430) C dL_law_1423 (by decide) (fun c => ?_) (fun c => ?_)
    · refine a_lconst (v := 0) C dL_law_1430 (by decide) ?_
      refine a_lcmp C dL_law_1431 ?_
      refine a_top 0 (by show lg_cmp (if 0 = 0 then o2 else 0) 0 = 0; rw [if_pos rfl, e1, ← bI_L0 c]; exact lcmp_0 _) ?_
      exact a_if_eq (tgt := 1437) C dL_law_1432 (by decide) (fun _ => fin _ (xsub_cons rfl (xsub_cons rfl (xsub_cons rfl (xsub_cons rfl (xsub_cons rfl (xsub_nil))))))) (fun z => absurd rfl z)
    · refine a_lconst (v := 1) C dL_law_1426 (by decide) ?_
      refine a_goto (tgt := 1431) C dL_law_1427 (by decide) ?_
      refine a_lcmp C dL_law_1431 ?_
      refine a_top 0 (by show lg_cmp (if 0 = 0 then o2 else 0) 1 = 0; rw [if_pos rfl, e1, ← bI_L1 hc c]; exact lcmp_0 _) ?_
      exact a_if_eq (tgt := 1437) C dL_law_1432 (by decide) (fun _ => fin _ (xsub_cons rfl (xsub_cons rfl (xsub_cons rfl (xsub_cons rfl (xsub_cons rfl (xsub_nil))))))) (fun z => absurd rfl z)
  · obtain ⟨rfl, o2, jc2, jr2, -, hF⟩ := hq1
    obtain rfl := hF hc
    refine a_istore (i := 5) C dL_law_1388 (by decide) ?_
    refine a_aload_n (i := 2) C dL_law_1390 rfl rfl ?_
    refine a_aload_n (i := 0) C dL_law_1391 rfl rfl ?_
    refine a_iload (i := 4) C dL_law_1392 rfl ?_
    refine a_iconst (v := 1) C dL_law_1394 (by decide) ?_
    refine a_iadd C dL_law_1395 ?_
    refine a_top (nI (i + 1)) (nI_add i 1) ?_
    refine a_scrGet C hS dL_law_1396 (by omega) (by omega) ?_
    refine a_hp xCM ?_
    refine a_callV C dL_law_1397 cv_X7_isInterest tb1197 (m_X7_isInterest hflags hI) rfl rfl xM_0 rfl (Nat.le_of_ble_eq_true rfl) ⟨Nat.le_of_ble_eq_true rfl, Nat.le_of_ble_eq_true rfl⟩ ⟨(bud3 (c := 1) hq hk (by decide)).2, (bud4 (c := 6) hq hns (by decide)).2⟩ (fun _ h => h.elim) xav_no (fun _ _ h => h.elim) (fun r2 hp2 hq2 => ?_)
    obtain ⟨rfl, rfl⟩ := hq2
    refine a_loc [(0, .ref 908), (1, .ref 0), (2, .ref 200), (3, .ref 230), (4, .int (nI i)), (5, .int (((oRd (xin (xs (i + 1)) ni) (bI (¬ f 16 (xs (i + 1)).toNatClampNeg = 0)) n f g)).2.1 0))] (xsub_cons rfl (xsub_cons rfl (xsub_cons rfl (xsub_cons rfl (xsub_cons rfl (xsub_cons rfl (xsub_nil))))))) ?_
    refine a_istore (i := 6) C dL_law_1400 (by decide) ?_
    refine a_aload_n (i := 2) C dL_law_1402 rfl rfl ?_
    refine a_callV C dL_law_1403 cv_X7_thrown tb1021 (m_X7_thrown hflags) rfl rfl xM_0 rfl (Nat.le_of_ble_eq_true rfl) ⟨Nat.le_of_ble_eq_true rfl, Nat.le_of_ble_eq_true rfl⟩ ⟨(bud3 (c := 1) hq hk (by decide)).2, (bud4 (c := 6) hq hns (by decide)).2⟩ (fun _ h => h.elim) xav_no (fun _ _ h => h.elim) (fun r3 hp3 hq3 => ?_)
    obtain ⟨rfl, rfl⟩ := hq3
    refine a_iload (i := 5) C dL_law_1406 rfl ?_
    refine a_icmp_eq (tgt := 1413) C dL_law_1408 (by decide) (fun _ => ?_) (fun z => absurd rfl z)
    refine a_iload (i := 5) C dL_law_1413 rfl ?_
    obtain ⟨eF, eG, e1, hJ2⟩ := hS9.2 hc
    refine a_if_ne (tgt := 1437) C dL_law_1415 (by decide) (fun _ => ?_) (fun z => absurd z hc)
    refine a_goto (tgt := 2412) C dL_law_1437 (by decide) ?_
    refine a_loc [(0, .ref 908), (1, .ref 0), (2, .ref 200), (3, .ref 230), (4, .int (nI i))] (xsub_cons rfl (xsub_cons rfl (xsub_cons rfl (xsub_cons rfl (xsub_cons rfl (xsub_nil)))))) ?_
    refine a_hp (show _ = xC (xM (xOut o2) ((oRd (xin (xs (i + 1)) ni) (bI (¬ f 16 (xs (i + 1)).toNatClampNeg = 0)) n f g)).2.1 f g) nc ni np nl (((oRd (xin (xs (i + 1)) ni) (bI (¬ f 16 (xs (i + 1)).toNatClampNeg = 0)) n f g)).2.1 1) f g jc2 jr2 by rw [eF, eG, e1, xCM]) ?_
    exact next o2 _ _ _ _ _ _ _ jc2 jr2 _ _ hJ2 (bud3 (c := 1) hq hk (by decide)).1 (bud4 (c := 6) hq hns (by decide)).1
set_option maxRecDepth 100000 in
set_option maxHeartbeats 4000000 in
theorem lc_customers {E : xEnv} {l : Launch} {N0 : Nat} {D : va_G} {dT : Nat → ClassId} {ret : Option FieldType} {tab : List ExceptionTableEntry} (hflags : l.stackTraces = false) (C : aC E l N0 D dT cL_law "ReceivablesBookLaw" 7 ret tab room_1 nwLaw) (hN : xNcE E) {Ln i q9 : Nat} {xs : Nat → Int32} (hS : xScr Ln xs E) (hLn : Ln ≤ 2048) (hi : i + 4 ≤ Ln) (hq : q9 < 512) {o9 : Int64} {n : Nat → Int32} {f : Nat → Nat → Int32} {g : Nat → Nat → Int64} {nc ni np nl : Nat} {jc : Nat → Nat → Int32} {jr : Nat → Int64} {k ns : Nat} (hJ : JI n f g nc ni np nl q9) (hk : k ≤ 34 + 8 * q9 + 2 * lGen nl) (hns : ns ≤ 33300 + 100 * q9 + 4 * lCap nl) (next : ∀ (o : Int64) (n : Nat → Int32) (f : Nat → Nat → Int32) (g : Nat → Nat → Int64) (nc ni np nl : Nat) (jc : Nat → Nat → Int32) (jr : Nat → Int64) (k ns : Nat), JI n f g nc ni np nl (q9 + 1) → k ≤ 34 + 8 * (q9 + 1) + 2 * lGen nl → ns ≤ 33300 + 100 * (q9 + 1) + 4 * lCap nl → aW E k ns (xC (xM (xOut o) n f g) nc ni np nl (n 1) f g jc jr) 2412 [(0, .ref 908), (1, .ref 0), (2, .ref 200), (3, .ref 230), (4, .int (nI i))] []) : aW E k ns (xC (xM (xOut o9) n f g) nc ni np nl (n 1) f g jc jr) 1440 [(0, .ref 908), (1, .ref 0), (2, .ref 200), (3, .ref 230), (4, .int (nI i))] [] := by
  have hnl := JI_nl hJ (by omega)
  obtain ⟨hI, ⟨t9, ht, ht2, hG⟩, hLl⟩ := id hJ
  obtain ⟨-, -, -, -, hc6, hi24, hp24, hl16⟩ := id hI
  have hB : nc ≤ 6 ∧ ni ≤ 24 ∧ np ≤ 24 ∧ nl ≤ 16000 := ⟨hc6, hi24, hp24, hl16⟩
  refine a_aload_n (i := 1) C dL_law_1440 rfl rfl ?_
  refine a_callV C dL_law_1441 cv_X6_customers tb162 (m_X6_customers hflags (h := xM (xOut o9) n f g) hB hI) rfl rfl xC_0 rfl (Nat.le_of_ble_eq_true rfl) ⟨Nat.le_of_ble_eq_true rfl, Nat.le_of_ble_eq_true rfl⟩ ⟨(bud3 (c := 0) hq hk (by decide)).2, (bud4 (c := 0) hq hns (by decide)).2⟩ (fun _ h => h.elim) xav_no (fun _ _ h => h.elim) (fun r1 hp1 hq1 => ?_)
  obtain ⟨-, rfl, jc2, jr2, rfl⟩ := hq1
  refine a_aload_n (i := 2) C dL_law_1444 rfl rfl ?_
  refine a_hp xCM ?_
  refine a_callV C dL_law_1445 cv_X7_customers tb1201 (m_X7_customers hflags) rfl rfl xM_0 rfl (Nat.le_of_ble_eq_true rfl) ⟨Nat.le_of_ble_eq_true rfl, Nat.le_of_ble_eq_true rfl⟩ ⟨(bud3 (c := 0) hq hk (by decide)).2, (bud4 (c := 0) hq hns (by decide)).2⟩ (fun _ h => h.elim) xav_no (fun _ _ h => h.elim) (fun r2 hp2 hq2 => ?_)
  obtain ⟨rfl, rfl⟩ := hq2
  refine a_icmp_eq (tgt := 2412) C dL_law_1448 (by decide) (fun _ => ?_) (fun z => absurd rfl z)
  refine a_hp xCM.symm ?_
  exact next o9 _ _ _ _ _ _ _ jc2 jr2 _ _ (JI_0 (w := 0) hJ) (bud3 (c := 0) hq hk (by decide)).1 (bud4 (c := 0) hq hns (by decide)).1
set_option maxRecDepth 100000 in
set_option maxHeartbeats 4000000 in
theorem lc_invoices {E : xEnv} {l : Launch} {N0 : Nat} {D : va_G} {dT : Nat → ClassId} {ret : Option FieldType} {tab : List ExceptionTableEntry} (hflags : l.stackTraces = false) (C : aC E l N0 D dT cL_law "ReceivablesBookLaw" 7 ret tab room_1 nwLaw) (hN : xNcE E) {Ln i q9 : Nat} {xs : Nat → Int32} (hS : xScr Ln xs E) (hLn : Ln ≤ 2048) (hi : i + 4 ≤ Ln) (hq : q9 < 512) {o9 : Int64} {n : Nat → Int32} {f : Nat → Nat → Int32} {g : Nat → Nat → Int64} {nc ni np nl : Nat} {jc : Nat → Nat → Int32} {jr : Nat → Int64} {k ns : Nat} (hJ : JI n f g nc ni np nl q9) (hk : k ≤ 34 + 8 * q9 + 2 * lGen nl) (hns : ns ≤ 33300 + 100 * q9 + 4 * lCap nl) (next : ∀ (o : Int64) (n : Nat → Int32) (f : Nat → Nat → Int32) (g : Nat → Nat → Int64) (nc ni np nl : Nat) (jc : Nat → Nat → Int32) (jr : Nat → Int64) (k ns : Nat), JI n f g nc ni np nl (q9 + 1) → k ≤ 34 + 8 * (q9 + 1) + 2 * lGen nl → ns ≤ 33300 + 100 * (q9 + 1) + 4 * lCap nl → aW E k ns (xC (xM (xOut o) n f g) nc ni np nl (n 1) f g jc jr) 2412 [(0, .ref 908), (1, .ref 0), (2, .ref 200), (3, .ref 230), (4, .int (nI i))] []) : aW E k ns (xC (xM (xOut o9) n f g) nc ni np nl (n 1) f g jc jr) 1453 [(0, .ref 908), (1, .ref 0), (2, .ref 200), (3, .ref 230), (4, .int (nI i))] [] := by
  have hnl := JI_nl hJ (by omega)
  obtain ⟨hI, ⟨t9, ht, ht2, hG⟩, hLl⟩ := id hJ
  obtain ⟨-, -, -, -, hc6, hi24, hp24, hl16⟩ := id hI
  have hB : nc ≤ 6 ∧ ni ≤ 24 ∧ np ≤ 24 ∧ nl ≤ 16000 := ⟨hc6, hi24, hp24, hl16⟩
  refine a_aload_n (i := 1) C dL_law_1453 rfl rfl ?_
  refine a_callV C dL_law_1454 cv_X6_invoices tb170 (m_X6_invoices hflags (h := xM (xOut o9) n f g) hB hI) rfl rfl xC_0 rfl (Nat.le_of_ble_eq_true rfl) ⟨Nat.le_of_ble_eq_true rfl, Nat.le_of_ble_eq_true rfl⟩ ⟨(bud3 (c := 0) hq hk (by decide)).2, (bud4 (c := 0) hq hns (by decide)).2⟩ (fun _ h => h.elim) xav_no (fun _ _ h => h.elim) (fun r1 hp1 hq1 => ?_)
  obtain ⟨-, rfl, jc2, jr2, rfl⟩ := hq1
  refine a_aload_n (i := 2) C dL_law_1457 rfl rfl ?_
  refine a_hp xCM ?_
  refine a_callV C dL_law_1458 cv_X7_invoices tb1205 (m_X7_invoices hflags) rfl rfl xM_0 rfl (Nat.le_of_ble_eq_true rfl) ⟨Nat.le_of_ble_eq_true rfl, Nat.le_of_ble_eq_true rfl⟩ ⟨(bud3 (c := 0) hq hk (by decide)).2, (bud4 (c := 0) hq hns (by decide)).2⟩ (fun _ h => h.elim) xav_no (fun _ _ h => h.elim) (fun r2 hp2 hq2 => ?_)
  obtain ⟨rfl, rfl⟩ := hq2
  refine a_icmp_eq (tgt := 2412) C dL_law_1461 (by decide) (fun _ => ?_) (fun z => absurd rfl z)
  refine a_hp xCM.symm ?_
  exact next o9 _ _ _ _ _ _ _ jc2 jr2 _ _ (JI_0 (w := 0) hJ) (bud3 (c := 0) hq hk (by decide)).1 (bud4 (c := 0) hq hns (by decide)).1
set_option maxRecDepth 100000 in
set_option maxHeartbeats 4000000 in
theorem lc_payments {E : xEnv} {l : Launch} {N0 : Nat} {D : va_G} {dT : Nat → ClassId} {ret : Option FieldType} {tab : List ExceptionTableEntry} (hflags : l.stackTraces = false) (C : aC E l N0 D dT cL_law "ReceivablesBookLaw" 7 ret tab room_1 nwLaw) (hN : xNcE E) {Ln i q9 : Nat} {xs : Nat → Int32} (hS : xScr Ln xs E) (hLn : Ln ≤ 2048) (hi : i + 4 ≤ Ln) (hq : q9 < 512) {o9 : Int64} {n : Nat → Int32} {f : Nat → Nat → Int32} {g : Nat → Nat → Int64} {nc ni np nl : Nat} {jc : Nat → Nat → Int32} {jr : Nat → Int64} {k ns : Nat} (hJ : JI n f g nc ni np nl q9) (hk : k ≤ 34 + 8 * q9 + 2 * lGen nl) (hns : ns ≤ 33300 + 100 * q9 + 4 * lCap nl) (next : ∀ (o : Int64) (n : Nat → Int32) (f : Nat → Nat → Int32) (g : Nat → Nat → Int64) (nc ni np nl : Nat) (jc : Nat → Nat → Int32) (jr : Nat → Int64) (k ns : Nat), JI n f g nc ni np nl (q9 + 1) → k ≤ 34 + 8 * (q9 + 1) + 2 * lGen nl → ns ≤ 33300 + 100 * (q9 + 1) + 4 * lCap nl → aW E k ns (xC (xM (xOut o) n f g) nc ni np nl (n 1) f g jc jr) 2412 [(0, .ref 908), (1, .ref 0), (2, .ref 200), (3, .ref 230), (4, .int (nI i))] []) : aW E k ns (xC (xM (xOut o9) n f g) nc ni np nl (n 1) f g jc jr) 1466 [(0, .ref 908), (1, .ref 0), (2, .ref 200), (3, .ref 230), (4, .int (nI i))] [] := by
  have hnl := JI_nl hJ (by omega)
  obtain ⟨hI, ⟨t9, ht, ht2, hG⟩, hLl⟩ := id hJ
  obtain ⟨-, -, -, -, hc6, hi24, hp24, hl16⟩ := id hI
  have hB : nc ≤ 6 ∧ ni ≤ 24 ∧ np ≤ 24 ∧ nl ≤ 16000 := ⟨hc6, hi24, hp24, hl16⟩
  refine a_aload_n (i := 1) C dL_law_1466 rfl rfl ?_
  refine a_callV C dL_law_1467 cv_X6_payments tb174 (m_X6_payments hflags (h := xM (xOut o9) n f g) hB hI) rfl rfl xC_0 rfl (Nat.le_of_ble_eq_true rfl) ⟨Nat.le_of_ble_eq_true rfl, Nat.le_of_ble_eq_true rfl⟩ ⟨(bud3 (c := 0) hq hk (by decide)).2, (bud4 (c := 0) hq hns (by decide)).2⟩ (fun _ h => h.elim) xav_no (fun _ _ h => h.elim) (fun r1 hp1 hq1 => ?_)
  obtain ⟨-, rfl, jc2, jr2, rfl⟩ := hq1
  refine a_aload_n (i := 2) C dL_law_1470 rfl rfl ?_
  refine a_hp xCM ?_
  refine a_callV C dL_law_1471 cv_X7_payments tb1209 (m_X7_payments hflags) rfl rfl xM_0 rfl (Nat.le_of_ble_eq_true rfl) ⟨Nat.le_of_ble_eq_true rfl, Nat.le_of_ble_eq_true rfl⟩ ⟨(bud3 (c := 0) hq hk (by decide)).2, (bud4 (c := 0) hq hns (by decide)).2⟩ (fun _ h => h.elim) xav_no (fun _ _ h => h.elim) (fun r2 hp2 hq2 => ?_)
  obtain ⟨rfl, rfl⟩ := hq2
  refine a_icmp_eq (tgt := 2412) C dL_law_1474 (by decide) (fun _ => ?_) (fun z => absurd rfl z)
  refine a_hp xCM.symm ?_
  exact next o9 _ _ _ _ _ _ _ jc2 jr2 _ _ (JI_0 (w := 0) hJ) (bud3 (c := 0) hq hk (by decide)).1 (bud4 (c := 0) hq hns (by decide)).1
set_option maxRecDepth 100000 in
set_option maxHeartbeats 4000000 in
theorem lc_amountOf {E : xEnv} {l : Launch} {N0 : Nat} {D : va_G} {dT : Nat → ClassId} {ret : Option FieldType} {tab : List ExceptionTableEntry} (hflags : l.stackTraces = false) (C : aC E l N0 D dT cL_law "ReceivablesBookLaw" 7 ret tab room_1 nwLaw) (hN : xNcE E) {Ln i q9 : Nat} {xs : Nat → Int32} (hS : xScr Ln xs E) (hLn : Ln ≤ 2048) (hi : i + 4 ≤ Ln) (hq : q9 < 512) {o9 : Int64} {n : Nat → Int32} {f : Nat → Nat → Int32} {g : Nat → Nat → Int64} {nc ni np nl : Nat} {jc : Nat → Nat → Int32} {jr : Nat → Int64} {k ns : Nat} (hJ : JI n f g nc ni np nl q9) (hk : k ≤ 34 + 8 * q9 + 2 * lGen nl) (hns : ns ≤ 33300 + 100 * q9 + 4 * lCap nl) (next : ∀ (o : Int64) (n : Nat → Int32) (f : Nat → Nat → Int32) (g : Nat → Nat → Int64) (nc ni np nl : Nat) (jc : Nat → Nat → Int32) (jr : Nat → Int64) (k ns : Nat), JI n f g nc ni np nl (q9 + 1) → k ≤ 34 + 8 * (q9 + 1) + 2 * lGen nl → ns ≤ 33300 + 100 * (q9 + 1) + 4 * lCap nl → aW E k ns (xC (xM (xOut o) n f g) nc ni np nl (n 1) f g jc jr) 2412 [(0, .ref 908), (1, .ref 0), (2, .ref 200), (3, .ref 230), (4, .int (nI i))] []) : aW E k ns (xC (xM (xOut o9) n f g) nc ni np nl (n 1) f g jc jr) 1479 [(0, .ref 908), (1, .ref 0), (2, .ref 200), (3, .ref 230), (4, .int (nI i))] [] := by
  have hnl := JI_nl hJ (by omega)
  obtain ⟨hI, ⟨t9, ht, ht2, hG⟩, hLl⟩ := id hJ
  obtain ⟨-, -, -, -, hc6, hi24, hp24, hl16⟩ := id hI
  have hB : nc ≤ 6 ∧ ni ≤ 24 ∧ np ≤ 24 ∧ nl ≤ 16000 := ⟨hc6, hi24, hp24, hl16⟩
  have hS9 : sP n f g nc ni np nl q9 (nc) (ni) (np) (nl) ((oRd (xin (xs (i + 1)) ni) (f 11 (xs (i + 1)).toNatClampNeg) n f g)) := (sP_rd hJ)
  refine a_aload_n (i := 1) C dL_law_1479 rfl rfl ?_
  refine a_aload_n (i := 0) C dL_law_1480 rfl rfl ?_
  refine a_iload (i := 4) C dL_law_1481 rfl ?_
  refine a_iconst (v := 1) C dL_law_1483 (by decide) ?_
  refine a_iadd C dL_law_1484 ?_
  refine a_top (nI (i + 1)) (nI_add i 1) ?_
  refine a_scrGet C hS dL_law_1485 (by omega) (by omega) ?_
  refine a_aload_n (i := 3) C dL_law_1486 rfl rfl ?_
  refine a_callSN (na := 3) C hN dL_law_1487 ⟨tb798, tb46, tb799, ⟨by decide, by decide, by decide +kernel⟩⟩ tb797 (w_amountOf hflags (o9 := o9) hB ) rfl rfl (Nat.le_of_ble_eq_true rfl) ⟨Nat.le_of_ble_eq_true rfl, Nat.le_of_ble_eq_true rfl⟩ ⟨(bud3 (c := 1) hq hk (by decide)).2, (bud4 (c := 6) hq hns (by decide)).2⟩ (fun _ h => h.elim) xav_no (fun r1 hp1 hq1 => ?_)
  by_cases hc : ((oRd (xin (xs (i + 1)) ni) (f 11 (xs (i + 1)).toNatClampNeg) n f g)).2.1 0 = 0
  · obtain ⟨rfl, o2, jc2, jr2, hA, -⟩ := hq1
    obtain ⟨e1, rfl⟩ := hA hc
    refine a_istore (i := 5) C dL_law_1490 (by decide) ?_
    refine a_aload_n (i := 2) C dL_law_1492 rfl rfl ?_
    refine a_aload_n (i := 0) C dL_law_1493 rfl rfl ?_
    refine a_iload (i := 4) C dL_law_1494 rfl ?_
    refine a_iconst (v := 1) C dL_law_1496 (by decide) ?_
    refine a_iadd C dL_law_1497 ?_
    refine a_top (nI (i + 1)) (nI_add i 1) ?_
    refine a_scrGet C hS dL_law_1498 (by omega) (by omega) ?_
    refine a_hp xCM ?_
    refine a_callV C dL_law_1499 cv_X7_amountOf tb1213 (m_X7_amountOf hflags hI) rfl rfl xM_0 rfl (Nat.le_of_ble_eq_true rfl) ⟨Nat.le_of_ble_eq_true rfl, Nat.le_of_ble_eq_true rfl⟩ ⟨(bud3 (c := 1) hq hk (by decide)).2, (bud4 (c := 6) hq hns (by decide)).2⟩ (fun _ h => h.elim) xav_no (fun _ _ h => h.elim) (fun r2 hp2 hq2 => ?_)
    obtain ⟨rfl, rfl⟩ := hq2
    refine a_loc [(0, .ref 908), (1, .ref 0), (2, .ref 200), (3, .ref 230), (4, .int (nI i)), (5, .int (((oRd (xin (xs (i + 1)) ni) (f 11 (xs (i + 1)).toNatClampNeg) n f g)).2.1 0))] (xsub_cons rfl (xsub_cons rfl (xsub_cons rfl (xsub_cons rfl (xsub_cons rfl (xsub_cons rfl (xsub_nil))))))) ?_
    exact l_tail hflags C (p0 := 1502) dL_law_1502 dL_law_1504 dL_law_1505 dL_law_1508 dL_law_1510 dL_law_1515 dL_law_1517 dL_law_1520 dL_law_1521 dL_law_1522 dL_law_1523 dL_law_1525 dL_law_1526 dL_law_1527 dL_law_1532 (by decide) (bud3 (c := 1) hq hk (by decide)).2 (bud4 (c := 6) hq hns (by decide)).2 (fun _ => e1) (a_hp xCM.symm (next o2 _ _ _ _ _ _ _ jc2 jr2 _ _ (hS9.1 hc) (bud3 (c := 1) hq hk (by decide)).1 (bud4 (c := 6) hq hns (by decide)).1))
  · obtain ⟨rfl, o2, jc2, jr2, -, hF⟩ := hq1
    obtain rfl := hF hc
    refine a_istore (i := 5) C dL_law_1490 (by decide) ?_
    refine a_aload_n (i := 2) C dL_law_1492 rfl rfl ?_
    refine a_aload_n (i := 0) C dL_law_1493 rfl rfl ?_
    refine a_iload (i := 4) C dL_law_1494 rfl ?_
    refine a_iconst (v := 1) C dL_law_1496 (by decide) ?_
    refine a_iadd C dL_law_1497 ?_
    refine a_top (nI (i + 1)) (nI_add i 1) ?_
    refine a_scrGet C hS dL_law_1498 (by omega) (by omega) ?_
    refine a_hp xCM ?_
    refine a_callV C dL_law_1499 cv_X7_amountOf tb1213 (m_X7_amountOf hflags hI) rfl rfl xM_0 rfl (Nat.le_of_ble_eq_true rfl) ⟨Nat.le_of_ble_eq_true rfl, Nat.le_of_ble_eq_true rfl⟩ ⟨(bud3 (c := 1) hq hk (by decide)).2, (bud4 (c := 6) hq hns (by decide)).2⟩ (fun _ h => h.elim) xav_no (fun _ _ h => h.elim) (fun r2 hp2 hq2 => ?_)
    obtain ⟨rfl, rfl⟩ := hq2
    refine a_loc [(0, .ref 908), (1, .ref 0), (2, .ref 200), (3, .ref 230), (4, .int (nI i)), (5, .int (((oRd (xin (xs (i + 1)) ni) (f 11 (xs (i + 1)).toNatClampNeg) n f g)).2.1 0))] (xsub_cons rfl (xsub_cons rfl (xsub_cons rfl (xsub_cons rfl (xsub_cons rfl (xsub_cons rfl (xsub_nil))))))) ?_
    obtain ⟨eF, eG, e1, hJ2⟩ := hS9.2 hc
    refine l_tail hflags C (p0 := 1502) dL_law_1502 dL_law_1504 dL_law_1505 dL_law_1508 dL_law_1510 dL_law_1515 dL_law_1517 dL_law_1520 dL_law_1521 dL_law_1522 dL_law_1523 dL_law_1525 dL_law_1526 dL_law_1527 dL_law_1532 (by decide) (bud3 (c := 1) hq hk (by decide)).2 (bud4 (c := 6) hq hns (by decide)).2 (fun z => absurd z hc) ?_
    refine a_hp (show _ = xC (xM (xOut o2) ((oRd (xin (xs (i + 1)) ni) (f 11 (xs (i + 1)).toNatClampNeg) n f g)).2.1 f g) nc ni np nl (((oRd (xin (xs (i + 1)) ni) (f 11 (xs (i + 1)).toNatClampNeg) n f g)).2.1 1) f g jc2 jr2 by rw [eF, eG, e1, xCM]) ?_
    exact next o2 _ _ _ _ _ _ _ jc2 jr2 _ _ hJ2 (bud3 (c := 1) hq hk (by decide)).1 (bud4 (c := 6) hq hns (by decide)).1
set_option maxRecDepth 100000 in
set_option maxHeartbeats 4000000 in
theorem lc_dueDay {E : xEnv} {l : Launch} {N0 : Nat} {D : va_G} {dT : Nat → ClassId} {ret : Option FieldType} {tab : List ExceptionTableEntry} (hflags : l.stackTraces = false) (C : aC E l N0 D dT cL_law "ReceivablesBookLaw" 7 ret tab room_1 nwLaw) (hN : xNcE E) {Ln i q9 : Nat} {xs : Nat → Int32} (hS : xScr Ln xs E) (hLn : Ln ≤ 2048) (hi : i + 4 ≤ Ln) (hq : q9 < 512) {o9 : Int64} {n : Nat → Int32} {f : Nat → Nat → Int32} {g : Nat → Nat → Int64} {nc ni np nl : Nat} {jc : Nat → Nat → Int32} {jr : Nat → Int64} {k ns : Nat} (hJ : JI n f g nc ni np nl q9) (hk : k ≤ 34 + 8 * q9 + 2 * lGen nl) (hns : ns ≤ 33300 + 100 * q9 + 4 * lCap nl) (next : ∀ (o : Int64) (n : Nat → Int32) (f : Nat → Nat → Int32) (g : Nat → Nat → Int64) (nc ni np nl : Nat) (jc : Nat → Nat → Int32) (jr : Nat → Int64) (k ns : Nat), JI n f g nc ni np nl (q9 + 1) → k ≤ 34 + 8 * (q9 + 1) + 2 * lGen nl → ns ≤ 33300 + 100 * (q9 + 1) + 4 * lCap nl → aW E k ns (xC (xM (xOut o) n f g) nc ni np nl (n 1) f g jc jr) 2412 [(0, .ref 908), (1, .ref 0), (2, .ref 200), (3, .ref 230), (4, .int (nI i))] []) : aW E k ns (xC (xM (xOut o9) n f g) nc ni np nl (n 1) f g jc jr) 1535 [(0, .ref 908), (1, .ref 0), (2, .ref 200), (3, .ref 230), (4, .int (nI i))] [] := by
  have hnl := JI_nl hJ (by omega)
  obtain ⟨hI, ⟨t9, ht, ht2, hG⟩, hLl⟩ := id hJ
  obtain ⟨-, -, -, -, hc6, hi24, hp24, hl16⟩ := id hI
  have hB : nc ≤ 6 ∧ ni ≤ 24 ∧ np ≤ 24 ∧ nl ≤ 16000 := ⟨hc6, hi24, hp24, hl16⟩
  have hS9 : sP n f g nc ni np nl q9 (nc) (ni) (np) (nl) ((oRd (xin (xs (i + 1)) ni) (f 12 (xs (i + 1)).toNatClampNeg) n f g)) := (sP_rd hJ)
  refine a_aload_n (i := 1) C dL_law_1535 rfl rfl ?_
  refine a_aload_n (i := 0) C dL_law_1536 rfl rfl ?_
  refine a_iload (i := 4) C dL_law_1537 rfl ?_
  refine a_iconst (v := 1) C dL_law_1539 (by decide) ?_
  refine a_iadd C dL_law_1540 ?_
  refine a_top (nI (i + 1)) (nI_add i 1) ?_
  refine a_scrGet C hS dL_law_1541 (by omega) (by omega) ?_
  refine a_aload_n (i := 3) C dL_law_1542 rfl rfl ?_
  refine a_callSN (na := 3) C hN dL_law_1543 ⟨tb805, tb46, tb806, ⟨by decide, by decide, by decide +kernel⟩⟩ tb804 (w_dueDay hflags (o9 := o9) hB ) rfl rfl (Nat.le_of_ble_eq_true rfl) ⟨Nat.le_of_ble_eq_true rfl, Nat.le_of_ble_eq_true rfl⟩ ⟨(bud3 (c := 1) hq hk (by decide)).2, (bud4 (c := 6) hq hns (by decide)).2⟩ (fun _ h => h.elim) xav_no (fun r1 hp1 hq1 => ?_)
  by_cases hc : ((oRd (xin (xs (i + 1)) ni) (f 12 (xs (i + 1)).toNatClampNeg) n f g)).2.1 0 = 0
  · obtain ⟨rfl, o2, jc2, jr2, hA, -⟩ := hq1
    obtain ⟨e1, rfl⟩ := hA hc
    refine a_istore (i := 5) C dL_law_1546 (by decide) ?_
    refine a_aload_n (i := 2) C dL_law_1548 rfl rfl ?_
    refine a_aload_n (i := 0) C dL_law_1549 rfl rfl ?_
    refine a_iload (i := 4) C dL_law_1550 rfl ?_
    refine a_iconst (v := 1) C dL_law_1552 (by decide) ?_
    refine a_iadd C dL_law_1553 ?_
    refine a_top (nI (i + 1)) (nI_add i 1) ?_
    refine a_scrGet C hS dL_law_1554 (by omega) (by omega) ?_
    refine a_hp xCM ?_
    refine a_callV C dL_law_1555 cv_X7_dueDay tb1217 (m_X7_dueDay hflags hI) rfl rfl xM_0 rfl (Nat.le_of_ble_eq_true rfl) ⟨Nat.le_of_ble_eq_true rfl, Nat.le_of_ble_eq_true rfl⟩ ⟨(bud3 (c := 1) hq hk (by decide)).2, (bud4 (c := 6) hq hns (by decide)).2⟩ (fun _ h => h.elim) xav_no (fun _ _ h => h.elim) (fun r2 hp2 hq2 => ?_)
    obtain ⟨rfl, rfl⟩ := hq2
    refine a_loc [(0, .ref 908), (1, .ref 0), (2, .ref 200), (3, .ref 230), (4, .int (nI i)), (5, .int (((oRd (xin (xs (i + 1)) ni) (f 12 (xs (i + 1)).toNatClampNeg) n f g)).2.1 0))] (xsub_cons rfl (xsub_cons rfl (xsub_cons rfl (xsub_cons rfl (xsub_cons rfl (xsub_cons rfl (xsub_nil))))))) ?_
    exact l_tail hflags C (p0 := 1558) dL_law_1558 dL_law_1560 dL_law_1561 dL_law_1564 dL_law_1566 dL_law_1571 dL_law_1573 dL_law_1576 dL_law_1577 dL_law_1578 dL_law_1579 dL_law_1581 dL_law_1582 dL_law_1583 dL_law_1588 (by decide) (bud3 (c := 1) hq hk (by decide)).2 (bud4 (c := 6) hq hns (by decide)).2 (fun _ => e1) (a_hp xCM.symm (next o2 _ _ _ _ _ _ _ jc2 jr2 _ _ (hS9.1 hc) (bud3 (c := 1) hq hk (by decide)).1 (bud4 (c := 6) hq hns (by decide)).1))
  · obtain ⟨rfl, o2, jc2, jr2, -, hF⟩ := hq1
    obtain rfl := hF hc
    refine a_istore (i := 5) C dL_law_1546 (by decide) ?_
    refine a_aload_n (i := 2) C dL_law_1548 rfl rfl ?_
    refine a_aload_n (i := 0) C dL_law_1549 rfl rfl ?_
    refine a_iload (i := 4) C dL_law_1550 rfl ?_
    refine a_iconst (v := 1) C dL_law_1552 (by decide) ?_
    refine a_iadd C dL_law_1553 ?_
    refine a_top (nI (i + 1)) (nI_add i 1) ?_
    refine a_scrGet C hS dL_law_1554 (by omega) (by omega) ?_
    refine a_hp xCM ?_
    refine a_callV C dL_law_1555 cv_X7_dueDay tb1217 (m_X7_dueDay hflags hI) rfl rfl xM_0 rfl (Nat.le_of_ble_eq_true rfl) ⟨Nat.le_of_ble_eq_true rfl, Nat.le_of_ble_eq_true rfl⟩ ⟨(bud3 (c := 1) hq hk (by decide)).2, (bud4 (c := 6) hq hns (by decide)).2⟩ (fun _ h => h.elim) xav_no (fun _ _ h => h.elim) (fun r2 hp2 hq2 => ?_)
    obtain ⟨rfl, rfl⟩ := hq2
    refine a_loc [(0, .ref 908), (1, .ref 0), (2, .ref 200), (3, .ref 230), (4, .int (nI i)), (5, .int (((oRd (xin (xs (i + 1)) ni) (f 12 (xs (i + 1)).toNatClampNeg) n f g)).2.1 0))] (xsub_cons rfl (xsub_cons rfl (xsub_cons rfl (xsub_cons rfl (xsub_cons rfl (xsub_cons rfl (xsub_nil))))))) ?_
    obtain ⟨eF, eG, e1, hJ2⟩ := hS9.2 hc
    refine l_tail hflags C (p0 := 1558) dL_law_1558 dL_law_1560 dL_law_1561 dL_law_1564 dL_law_1566 dL_law_1571 dL_law_1573 dL_law_1576 dL_law_1577 dL_law_1578 dL_law_1579 dL_law_1581 dL_law_1582 dL_law_1583 dL_law_1588 (by decide) (bud3 (c := 1) hq hk (by decide)).2 (bud4 (c := 6) hq hns (by decide)).2 (fun z => absurd z hc) ?_
    refine a_hp (show _ = xC (xM (xOut o2) ((oRd (xin (xs (i + 1)) ni) (f 12 (xs (i + 1)).toNatClampNeg) n f g)).2.1 f g) nc ni np nl (((oRd (xin (xs (i + 1)) ni) (f 12 (xs (i + 1)).toNatClampNeg) n f g)).2.1 1) f g jc2 jr2 by rw [eF, eG, e1, xCM]) ?_
    exact next o2 _ _ _ _ _ _ _ jc2 jr2 _ _ hJ2 (bud3 (c := 1) hq hk (by decide)).1 (bud4 (c := 6) hq hns (by decide)).1
set_option maxRecDepth 100000 in
set_option maxHeartbeats 4000000 in
theorem lc_openOf {E : xEnv} {l : Launch} {N0 : Nat} {D : va_G} {dT : Nat → ClassId} {ret : Option FieldType} {tab : List ExceptionTableEntry} (hflags : l.stackTraces = false) (C : aC E l N0 D dT cL_law "ReceivablesBookLaw" 7 ret tab room_1 nwLaw) (hN : xNcE E) {Ln i q9 : Nat} {xs : Nat → Int32} (hS : xScr Ln xs E) (hLn : Ln ≤ 2048) (hi : i + 4 ≤ Ln) (hq : q9 < 512) {o9 : Int64} {n : Nat → Int32} {f : Nat → Nat → Int32} {g : Nat → Nat → Int64} {nc ni np nl : Nat} {jc : Nat → Nat → Int32} {jr : Nat → Int64} {k ns : Nat} (hJ : JI n f g nc ni np nl q9) (hk : k ≤ 34 + 8 * q9 + 2 * lGen nl) (hns : ns ≤ 33300 + 100 * q9 + 4 * lCap nl) (next : ∀ (o : Int64) (n : Nat → Int32) (f : Nat → Nat → Int32) (g : Nat → Nat → Int64) (nc ni np nl : Nat) (jc : Nat → Nat → Int32) (jr : Nat → Int64) (k ns : Nat), JI n f g nc ni np nl (q9 + 1) → k ≤ 34 + 8 * (q9 + 1) + 2 * lGen nl → ns ≤ 33300 + 100 * (q9 + 1) + 4 * lCap nl → aW E k ns (xC (xM (xOut o) n f g) nc ni np nl (n 1) f g jc jr) 2412 [(0, .ref 908), (1, .ref 0), (2, .ref 200), (3, .ref 230), (4, .int (nI i))] []) : aW E k ns (xC (xM (xOut o9) n f g) nc ni np nl (n 1) f g jc jr) 1591 [(0, .ref 908), (1, .ref 0), (2, .ref 200), (3, .ref 230), (4, .int (nI i))] [] := by
  have hnl := JI_nl hJ (by omega)
  obtain ⟨hI, ⟨t9, ht, ht2, hG⟩, hLl⟩ := id hJ
  obtain ⟨-, -, -, -, hc6, hi24, hp24, hl16⟩ := id hI
  have hB : nc ≤ 6 ∧ ni ≤ 24 ∧ np ≤ 24 ∧ nl ≤ 16000 := ⟨hc6, hi24, hp24, hl16⟩
  have hS9 : sP n f g nc ni np nl q9 (nc) (ni) (np) (nl) ((oRd (xin (xs (i + 1)) ni) (f 13 (xs (i + 1)).toNatClampNeg) n f g)) := (sP_rd hJ)
  refine a_aload_n (i := 1) C dL_law_1591 rfl rfl ?_
  refine a_aload_n (i := 0) C dL_law_1592 rfl rfl ?_
  refine a_iload (i := 4) C dL_law_1593 rfl ?_
  refine a_iconst (v := 1) C dL_law_1595 (by decide) ?_
  refine a_iadd C dL_law_1596 ?_
  refine a_top (nI (i + 1)) (nI_add i 1) ?_
  refine a_scrGet C hS dL_law_1597 (by omega) (by omega) ?_
  refine a_aload_n (i := 3) C dL_law_1598 rfl rfl ?_
  refine a_callSN (na := 3) C hN dL_law_1599 ⟨tb812, tb46, tb813, ⟨by decide, by decide, by decide +kernel⟩⟩ tb811 (w_openOf hflags (o9 := o9) hB ) rfl rfl (Nat.le_of_ble_eq_true rfl) ⟨Nat.le_of_ble_eq_true rfl, Nat.le_of_ble_eq_true rfl⟩ ⟨(bud3 (c := 1) hq hk (by decide)).2, (bud4 (c := 6) hq hns (by decide)).2⟩ (fun _ h => h.elim) xav_no (fun r1 hp1 hq1 => ?_)
  by_cases hc : ((oRd (xin (xs (i + 1)) ni) (f 13 (xs (i + 1)).toNatClampNeg) n f g)).2.1 0 = 0
  · obtain ⟨rfl, o2, jc2, jr2, hA, -⟩ := hq1
    obtain ⟨e1, rfl⟩ := hA hc
    refine a_istore (i := 5) C dL_law_1602 (by decide) ?_
    refine a_aload_n (i := 2) C dL_law_1604 rfl rfl ?_
    refine a_aload_n (i := 0) C dL_law_1605 rfl rfl ?_
    refine a_iload (i := 4) C dL_law_1606 rfl ?_
    refine a_iconst (v := 1) C dL_law_1608 (by decide) ?_
    refine a_iadd C dL_law_1609 ?_
    refine a_top (nI (i + 1)) (nI_add i 1) ?_
    refine a_scrGet C hS dL_law_1610 (by omega) (by omega) ?_
    refine a_hp xCM ?_
    refine a_callV C dL_law_1611 cv_X7_openOf tb1221 (m_X7_openOf hflags hI) rfl rfl xM_0 rfl (Nat.le_of_ble_eq_true rfl) ⟨Nat.le_of_ble_eq_true rfl, Nat.le_of_ble_eq_true rfl⟩ ⟨(bud3 (c := 1) hq hk (by decide)).2, (bud4 (c := 6) hq hns (by decide)).2⟩ (fun _ h => h.elim) xav_no (fun _ _ h => h.elim) (fun r2 hp2 hq2 => ?_)
    obtain ⟨rfl, rfl⟩ := hq2
    refine a_loc [(0, .ref 908), (1, .ref 0), (2, .ref 200), (3, .ref 230), (4, .int (nI i)), (5, .int (((oRd (xin (xs (i + 1)) ni) (f 13 (xs (i + 1)).toNatClampNeg) n f g)).2.1 0))] (xsub_cons rfl (xsub_cons rfl (xsub_cons rfl (xsub_cons rfl (xsub_cons rfl (xsub_cons rfl (xsub_nil))))))) ?_
    exact l_tail hflags C (p0 := 1614) dL_law_1614 dL_law_1616 dL_law_1617 dL_law_1620 dL_law_1622 dL_law_1627 dL_law_1629 dL_law_1632 dL_law_1633 dL_law_1634 dL_law_1635 dL_law_1637 dL_law_1638 dL_law_1639 dL_law_1644 (by decide) (bud3 (c := 1) hq hk (by decide)).2 (bud4 (c := 6) hq hns (by decide)).2 (fun _ => e1) (a_hp xCM.symm (next o2 _ _ _ _ _ _ _ jc2 jr2 _ _ (hS9.1 hc) (bud3 (c := 1) hq hk (by decide)).1 (bud4 (c := 6) hq hns (by decide)).1))
  · obtain ⟨rfl, o2, jc2, jr2, -, hF⟩ := hq1
    obtain rfl := hF hc
    refine a_istore (i := 5) C dL_law_1602 (by decide) ?_
    refine a_aload_n (i := 2) C dL_law_1604 rfl rfl ?_
    refine a_aload_n (i := 0) C dL_law_1605 rfl rfl ?_
    refine a_iload (i := 4) C dL_law_1606 rfl ?_
    refine a_iconst (v := 1) C dL_law_1608 (by decide) ?_
    refine a_iadd C dL_law_1609 ?_
    refine a_top (nI (i + 1)) (nI_add i 1) ?_
    refine a_scrGet C hS dL_law_1610 (by omega) (by omega) ?_
    refine a_hp xCM ?_
    refine a_callV C dL_law_1611 cv_X7_openOf tb1221 (m_X7_openOf hflags hI) rfl rfl xM_0 rfl (Nat.le_of_ble_eq_true rfl) ⟨Nat.le_of_ble_eq_true rfl, Nat.le_of_ble_eq_true rfl⟩ ⟨(bud3 (c := 1) hq hk (by decide)).2, (bud4 (c := 6) hq hns (by decide)).2⟩ (fun _ h => h.elim) xav_no (fun _ _ h => h.elim) (fun r2 hp2 hq2 => ?_)
    obtain ⟨rfl, rfl⟩ := hq2
    refine a_loc [(0, .ref 908), (1, .ref 0), (2, .ref 200), (3, .ref 230), (4, .int (nI i)), (5, .int (((oRd (xin (xs (i + 1)) ni) (f 13 (xs (i + 1)).toNatClampNeg) n f g)).2.1 0))] (xsub_cons rfl (xsub_cons rfl (xsub_cons rfl (xsub_cons rfl (xsub_cons rfl (xsub_cons rfl (xsub_nil))))))) ?_
    obtain ⟨eF, eG, e1, hJ2⟩ := hS9.2 hc
    refine l_tail hflags C (p0 := 1614) dL_law_1614 dL_law_1616 dL_law_1617 dL_law_1620 dL_law_1622 dL_law_1627 dL_law_1629 dL_law_1632 dL_law_1633 dL_law_1634 dL_law_1635 dL_law_1637 dL_law_1638 dL_law_1639 dL_law_1644 (by decide) (bud3 (c := 1) hq hk (by decide)).2 (bud4 (c := 6) hq hns (by decide)).2 (fun z => absurd z hc) ?_
    refine a_hp (show _ = xC (xM (xOut o2) ((oRd (xin (xs (i + 1)) ni) (f 13 (xs (i + 1)).toNatClampNeg) n f g)).2.1 f g) nc ni np nl (((oRd (xin (xs (i + 1)) ni) (f 13 (xs (i + 1)).toNatClampNeg) n f g)).2.1 1) f g jc2 jr2 by rw [eF, eG, e1, xCM]) ?_
    exact next o2 _ _ _ _ _ _ _ jc2 jr2 _ _ hJ2 (bud3 (c := 1) hq hk (by decide)).1 (bud4 (c := 6) hq hns (by decide)).1
set_option maxRecDepth 100000 in
set_option maxHeartbeats 4000000 in
theorem lc_openByLedger {E : xEnv} {l : Launch} {N0 : Nat} {D : va_G} {dT : Nat → ClassId} {ret : Option FieldType} {tab : List ExceptionTableEntry} (hflags : l.stackTraces = false) (C : aC E l N0 D dT cL_law "ReceivablesBookLaw" 7 ret tab room_1 nwLaw) (hN : xNcE E) {Ln i q9 : Nat} {xs : Nat → Int32} (hS : xScr Ln xs E) (hLn : Ln ≤ 2048) (hi : i + 4 ≤ Ln) (hq : q9 < 512) {o9 : Int64} {n : Nat → Int32} {f : Nat → Nat → Int32} {g : Nat → Nat → Int64} {nc ni np nl : Nat} {jc : Nat → Nat → Int32} {jr : Nat → Int64} {k ns : Nat} (hJ : JI n f g nc ni np nl q9) (hk : k ≤ 34 + 8 * q9 + 2 * lGen nl) (hns : ns ≤ 33300 + 100 * q9 + 4 * lCap nl) (next : ∀ (o : Int64) (n : Nat → Int32) (f : Nat → Nat → Int32) (g : Nat → Nat → Int64) (nc ni np nl : Nat) (jc : Nat → Nat → Int32) (jr : Nat → Int64) (k ns : Nat), JI n f g nc ni np nl (q9 + 1) → k ≤ 34 + 8 * (q9 + 1) + 2 * lGen nl → ns ≤ 33300 + 100 * (q9 + 1) + 4 * lCap nl → aW E k ns (xC (xM (xOut o) n f g) nc ni np nl (n 1) f g jc jr) 2412 [(0, .ref 908), (1, .ref 0), (2, .ref 200), (3, .ref 230), (4, .int (nI i))] []) : aW E k ns (xC (xM (xOut o9) n f g) nc ni np nl (n 1) f g jc jr) 1647 [(0, .ref 908), (1, .ref 0), (2, .ref 200), (3, .ref 230), (4, .int (nI i))] [] := by
  have hnl := JI_nl hJ (by omega)
  obtain ⟨hI, ⟨t9, ht, ht2, hG⟩, hLl⟩ := id hJ
  obtain ⟨-, -, -, -, hc6, hi24, hp24, hl16⟩ := id hI
  have hB : nc ≤ 6 ∧ ni ≤ 24 ∧ np ≤ 24 ∧ nl ≤ 16000 := ⟨hc6, hi24, hp24, hl16⟩
  have hS9 : sP n f g nc ni np nl q9 (nc) (ni) (np) (nl) ((oRd (xin (xs (i + 1)) ni) (xsum (xlin f (xs (i + 1))) nl) n f g)) := (sP_rd hJ)
  refine a_aload_n (i := 1) C dL_law_1647 rfl rfl ?_
  refine a_aload_n (i := 0) C dL_law_1648 rfl rfl ?_
  refine a_iload (i := 4) C dL_law_1649 rfl ?_
  refine a_iconst (v := 1) C dL_law_1651 (by decide) ?_
  refine a_iadd C dL_law_1652 ?_
  refine a_top (nI (i + 1)) (nI_add i 1) ?_
  refine a_scrGet C hS dL_law_1653 (by omega) (by omega) ?_
  refine a_aload_n (i := 3) C dL_law_1654 rfl rfl ?_
  refine a_callSN (na := 3) C hN dL_law_1655 ⟨tb819, tb46, tb820, ⟨by decide, by decide, by decide +kernel⟩⟩ tb818 (w_openByLedger hflags (o9 := o9) hB ) rfl rfl (Nat.le_of_ble_eq_true rfl) ⟨Nat.le_of_ble_eq_true rfl, Nat.le_of_ble_eq_true rfl⟩ ⟨(bud3 (c := 1) hq hk (by decide)).2, (bud4 (c := 6) hq hns (by decide)).2⟩ (fun _ h => h.elim) xav_no (fun r1 hp1 hq1 => ?_)
  by_cases hc : ((oRd (xin (xs (i + 1)) ni) (xsum (xlin f (xs (i + 1))) nl) n f g)).2.1 0 = 0
  · obtain ⟨rfl, o2, jc2, jr2, hA, -⟩ := hq1
    obtain ⟨e1, rfl⟩ := hA hc
    refine a_istore (i := 5) C dL_law_1658 (by decide) ?_
    refine a_aload_n (i := 2) C dL_law_1660 rfl rfl ?_
    refine a_aload_n (i := 0) C dL_law_1661 rfl rfl ?_
    refine a_iload (i := 4) C dL_law_1662 rfl ?_
    refine a_iconst (v := 1) C dL_law_1664 (by decide) ?_
    refine a_iadd C dL_law_1665 ?_
    refine a_top (nI (i + 1)) (nI_add i 1) ?_
    refine a_scrGet C hS dL_law_1666 (by omega) (by omega) ?_
    refine a_hp xCM ?_
    refine a_callV C dL_law_1667 cv_X7_openByLedger tb1225 (m_X7_openByLedger hflags hI) rfl rfl xM_0 rfl (Nat.le_of_ble_eq_true rfl) ⟨Nat.le_of_ble_eq_true rfl, Nat.le_of_ble_eq_true rfl⟩ ⟨(bud3 (c := 1) hq hk (by decide)).2, (bud4 (c := 6) hq hns (by decide)).2⟩ (fun _ h => h.elim) xav_no (fun _ _ h => h.elim) (fun r2 hp2 hq2 => ?_)
    obtain ⟨rfl, rfl⟩ := hq2
    refine a_loc [(0, .ref 908), (1, .ref 0), (2, .ref 200), (3, .ref 230), (4, .int (nI i)), (5, .int (((oRd (xin (xs (i + 1)) ni) (xsum (xlin f (xs (i + 1))) nl) n f g)).2.1 0))] (xsub_cons rfl (xsub_cons rfl (xsub_cons rfl (xsub_cons rfl (xsub_cons rfl (xsub_cons rfl (xsub_nil))))))) ?_
    exact l_tail hflags C (p0 := 1670) dL_law_1670 dL_law_1672 dL_law_1673 dL_law_1676 dL_law_1678 dL_law_1683 dL_law_1685 dL_law_1688 dL_law_1689 dL_law_1690 dL_law_1691 dL_law_1693 dL_law_1694 dL_law_1695 dL_law_1700 (by decide) (bud3 (c := 1) hq hk (by decide)).2 (bud4 (c := 6) hq hns (by decide)).2 (fun _ => e1) (a_hp xCM.symm (next o2 _ _ _ _ _ _ _ jc2 jr2 _ _ (hS9.1 hc) (bud3 (c := 1) hq hk (by decide)).1 (bud4 (c := 6) hq hns (by decide)).1))
  · obtain ⟨rfl, o2, jc2, jr2, -, hF⟩ := hq1
    obtain rfl := hF hc
    refine a_istore (i := 5) C dL_law_1658 (by decide) ?_
    refine a_aload_n (i := 2) C dL_law_1660 rfl rfl ?_
    refine a_aload_n (i := 0) C dL_law_1661 rfl rfl ?_
    refine a_iload (i := 4) C dL_law_1662 rfl ?_
    refine a_iconst (v := 1) C dL_law_1664 (by decide) ?_
    refine a_iadd C dL_law_1665 ?_
    refine a_top (nI (i + 1)) (nI_add i 1) ?_
    refine a_scrGet C hS dL_law_1666 (by omega) (by omega) ?_
    refine a_hp xCM ?_
    refine a_callV C dL_law_1667 cv_X7_openByLedger tb1225 (m_X7_openByLedger hflags hI) rfl rfl xM_0 rfl (Nat.le_of_ble_eq_true rfl) ⟨Nat.le_of_ble_eq_true rfl, Nat.le_of_ble_eq_true rfl⟩ ⟨(bud3 (c := 1) hq hk (by decide)).2, (bud4 (c := 6) hq hns (by decide)).2⟩ (fun _ h => h.elim) xav_no (fun _ _ h => h.elim) (fun r2 hp2 hq2 => ?_)
    obtain ⟨rfl, rfl⟩ := hq2
    refine a_loc [(0, .ref 908), (1, .ref 0), (2, .ref 200), (3, .ref 230), (4, .int (nI i)), (5, .int (((oRd (xin (xs (i + 1)) ni) (xsum (xlin f (xs (i + 1))) nl) n f g)).2.1 0))] (xsub_cons rfl (xsub_cons rfl (xsub_cons rfl (xsub_cons rfl (xsub_cons rfl (xsub_cons rfl (xsub_nil))))))) ?_
    obtain ⟨eF, eG, e1, hJ2⟩ := hS9.2 hc
    refine l_tail hflags C (p0 := 1670) dL_law_1670 dL_law_1672 dL_law_1673 dL_law_1676 dL_law_1678 dL_law_1683 dL_law_1685 dL_law_1688 dL_law_1689 dL_law_1690 dL_law_1691 dL_law_1693 dL_law_1694 dL_law_1695 dL_law_1700 (by decide) (bud3 (c := 1) hq hk (by decide)).2 (bud4 (c := 6) hq hns (by decide)).2 (fun z => absurd z hc) ?_
    refine a_hp (show _ = xC (xM (xOut o2) ((oRd (xin (xs (i + 1)) ni) (xsum (xlin f (xs (i + 1))) nl) n f g)).2.1 f g) nc ni np nl (((oRd (xin (xs (i + 1)) ni) (xsum (xlin f (xs (i + 1))) nl) n f g)).2.1 1) f g jc2 jr2 by rw [eF, eG, e1, xCM]) ?_
    exact next o2 _ _ _ _ _ _ _ jc2 jr2 _ _ hJ2 (bud3 (c := 1) hq hk (by decide)).1 (bud4 (c := 6) hq hns (by decide)).1
set_option maxRecDepth 100000 in
set_option maxHeartbeats 4000000 in
theorem lc_disputedOf {E : xEnv} {l : Launch} {N0 : Nat} {D : va_G} {dT : Nat → ClassId} {ret : Option FieldType} {tab : List ExceptionTableEntry} (hflags : l.stackTraces = false) (C : aC E l N0 D dT cL_law "ReceivablesBookLaw" 7 ret tab room_1 nwLaw) (hN : xNcE E) {Ln i q9 : Nat} {xs : Nat → Int32} (hS : xScr Ln xs E) (hLn : Ln ≤ 2048) (hi : i + 4 ≤ Ln) (hq : q9 < 512) {o9 : Int64} {n : Nat → Int32} {f : Nat → Nat → Int32} {g : Nat → Nat → Int64} {nc ni np nl : Nat} {jc : Nat → Nat → Int32} {jr : Nat → Int64} {k ns : Nat} (hJ : JI n f g nc ni np nl q9) (hk : k ≤ 34 + 8 * q9 + 2 * lGen nl) (hns : ns ≤ 33300 + 100 * q9 + 4 * lCap nl) (next : ∀ (o : Int64) (n : Nat → Int32) (f : Nat → Nat → Int32) (g : Nat → Nat → Int64) (nc ni np nl : Nat) (jc : Nat → Nat → Int32) (jr : Nat → Int64) (k ns : Nat), JI n f g nc ni np nl (q9 + 1) → k ≤ 34 + 8 * (q9 + 1) + 2 * lGen nl → ns ≤ 33300 + 100 * (q9 + 1) + 4 * lCap nl → aW E k ns (xC (xM (xOut o) n f g) nc ni np nl (n 1) f g jc jr) 2412 [(0, .ref 908), (1, .ref 0), (2, .ref 200), (3, .ref 230), (4, .int (nI i))] []) : aW E k ns (xC (xM (xOut o9) n f g) nc ni np nl (n 1) f g jc jr) 1703 [(0, .ref 908), (1, .ref 0), (2, .ref 200), (3, .ref 230), (4, .int (nI i))] [] := by
  have hnl := JI_nl hJ (by omega)
  obtain ⟨hI, ⟨t9, ht, ht2, hG⟩, hLl⟩ := id hJ
  obtain ⟨-, -, -, -, hc6, hi24, hp24, hl16⟩ := id hI
  have hB : nc ≤ 6 ∧ ni ≤ 24 ∧ np ≤ 24 ∧ nl ≤ 16000 := ⟨hc6, hi24, hp24, hl16⟩
  have hS9 : sP n f g nc ni np nl q9 (nc) (ni) (np) (nl) ((oRd (xin (xs (i + 1)) ni) (f 14 (xs (i + 1)).toNatClampNeg) n f g)) := (sP_rd hJ)
  refine a_aload_n (i := 1) C dL_law_1703 rfl rfl ?_
  refine a_aload_n (i := 0) C dL_law_1704 rfl rfl ?_
  refine a_iload (i := 4) C dL_law_1705 rfl ?_
  refine a_iconst (v := 1) C dL_law_1707 (by decide) ?_
  refine a_iadd C dL_law_1708 ?_
  refine a_top (nI (i + 1)) (nI_add i 1) ?_
  refine a_scrGet C hS dL_law_1709 (by omega) (by omega) ?_
  refine a_aload_n (i := 3) C dL_law_1710 rfl rfl ?_
  refine a_callSN (na := 3) C hN dL_law_1711 ⟨tb838, tb46, tb839, ⟨by decide, by decide, by decide +kernel⟩⟩ tb837 (w_disputedOf hflags (o9 := o9) hB ) rfl rfl (Nat.le_of_ble_eq_true rfl) ⟨Nat.le_of_ble_eq_true rfl, Nat.le_of_ble_eq_true rfl⟩ ⟨(bud3 (c := 1) hq hk (by decide)).2, (bud4 (c := 6) hq hns (by decide)).2⟩ (fun _ h => h.elim) xav_no (fun r1 hp1 hq1 => ?_)
  by_cases hc : ((oRd (xin (xs (i + 1)) ni) (f 14 (xs (i + 1)).toNatClampNeg) n f g)).2.1 0 = 0
  · obtain ⟨rfl, o2, jc2, jr2, hA, -⟩ := hq1
    obtain ⟨e1, rfl⟩ := hA hc
    refine a_istore (i := 5) C dL_law_1714 (by decide) ?_
    refine a_aload_n (i := 2) C dL_law_1716 rfl rfl ?_
    refine a_aload_n (i := 0) C dL_law_1717 rfl rfl ?_
    refine a_iload (i := 4) C dL_law_1718 rfl ?_
    refine a_iconst (v := 1) C dL_law_1720 (by decide) ?_
    refine a_iadd C dL_law_1721 ?_
    refine a_top (nI (i + 1)) (nI_add i 1) ?_
    refine a_scrGet C hS dL_law_1722 (by omega) (by omega) ?_
    refine a_hp xCM ?_
    refine a_callV C dL_law_1723 cv_X7_disputedOf tb1229 (m_X7_disputedOf hflags hI) rfl rfl xM_0 rfl (Nat.le_of_ble_eq_true rfl) ⟨Nat.le_of_ble_eq_true rfl, Nat.le_of_ble_eq_true rfl⟩ ⟨(bud3 (c := 1) hq hk (by decide)).2, (bud4 (c := 6) hq hns (by decide)).2⟩ (fun _ h => h.elim) xav_no (fun _ _ h => h.elim) (fun r2 hp2 hq2 => ?_)
    obtain ⟨rfl, rfl⟩ := hq2
    refine a_loc [(0, .ref 908), (1, .ref 0), (2, .ref 200), (3, .ref 230), (4, .int (nI i)), (5, .int (((oRd (xin (xs (i + 1)) ni) (f 14 (xs (i + 1)).toNatClampNeg) n f g)).2.1 0))] (xsub_cons rfl (xsub_cons rfl (xsub_cons rfl (xsub_cons rfl (xsub_cons rfl (xsub_cons rfl (xsub_nil))))))) ?_
    exact l_tail hflags C (p0 := 1726) dL_law_1726 dL_law_1728 dL_law_1729 dL_law_1732 dL_law_1734 dL_law_1739 dL_law_1741 dL_law_1744 dL_law_1745 dL_law_1746 dL_law_1747 dL_law_1749 dL_law_1750 dL_law_1751 dL_law_1756 (by decide) (bud3 (c := 1) hq hk (by decide)).2 (bud4 (c := 6) hq hns (by decide)).2 (fun _ => e1) (a_hp xCM.symm (next o2 _ _ _ _ _ _ _ jc2 jr2 _ _ (hS9.1 hc) (bud3 (c := 1) hq hk (by decide)).1 (bud4 (c := 6) hq hns (by decide)).1))
  · obtain ⟨rfl, o2, jc2, jr2, -, hF⟩ := hq1
    obtain rfl := hF hc
    refine a_istore (i := 5) C dL_law_1714 (by decide) ?_
    refine a_aload_n (i := 2) C dL_law_1716 rfl rfl ?_
    refine a_aload_n (i := 0) C dL_law_1717 rfl rfl ?_
    refine a_iload (i := 4) C dL_law_1718 rfl ?_
    refine a_iconst (v := 1) C dL_law_1720 (by decide) ?_
    refine a_iadd C dL_law_1721 ?_
    refine a_top (nI (i + 1)) (nI_add i 1) ?_
    refine a_scrGet C hS dL_law_1722 (by omega) (by omega) ?_
    refine a_hp xCM ?_
    refine a_callV C dL_law_1723 cv_X7_disputedOf tb1229 (m_X7_disputedOf hflags hI) rfl rfl xM_0 rfl (Nat.le_of_ble_eq_true rfl) ⟨Nat.le_of_ble_eq_true rfl, Nat.le_of_ble_eq_true rfl⟩ ⟨(bud3 (c := 1) hq hk (by decide)).2, (bud4 (c := 6) hq hns (by decide)).2⟩ (fun _ h => h.elim) xav_no (fun _ _ h => h.elim) (fun r2 hp2 hq2 => ?_)
    obtain ⟨rfl, rfl⟩ := hq2
    refine a_loc [(0, .ref 908), (1, .ref 0), (2, .ref 200), (3, .ref 230), (4, .int (nI i)), (5, .int (((oRd (xin (xs (i + 1)) ni) (f 14 (xs (i + 1)).toNatClampNeg) n f g)).2.1 0))] (xsub_cons rfl (xsub_cons rfl (xsub_cons rfl (xsub_cons rfl (xsub_cons rfl (xsub_cons rfl (xsub_nil))))))) ?_
    obtain ⟨eF, eG, e1, hJ2⟩ := hS9.2 hc
    refine l_tail hflags C (p0 := 1726) dL_law_1726 dL_law_1728 dL_law_1729 dL_law_1732 dL_law_1734 dL_law_1739 dL_law_1741 dL_law_1744 dL_law_1745 dL_law_1746 dL_law_1747 dL_law_1749 dL_law_1750 dL_law_1751 dL_law_1756 (by decide) (bud3 (c := 1) hq hk (by decide)).2 (bud4 (c := 6) hq hns (by decide)).2 (fun z => absurd z hc) ?_
    refine a_hp (show _ = xC (xM (xOut o2) ((oRd (xin (xs (i + 1)) ni) (f 14 (xs (i + 1)).toNatClampNeg) n f g)).2.1 f g) nc ni np nl (((oRd (xin (xs (i + 1)) ni) (f 14 (xs (i + 1)).toNatClampNeg) n f g)).2.1 1) f g jc2 jr2 by rw [eF, eG, e1, xCM]) ?_
    exact next o2 _ _ _ _ _ _ _ jc2 jr2 _ _ hJ2 (bud3 (c := 1) hq hk (by decide)).1 (bud4 (c := 6) hq hns (by decide)).1
set_option maxRecDepth 100000 in
set_option maxHeartbeats 4000000 in
theorem lc_allocated {E : xEnv} {l : Launch} {N0 : Nat} {D : va_G} {dT : Nat → ClassId} {ret : Option FieldType} {tab : List ExceptionTableEntry} (hflags : l.stackTraces = false) (C : aC E l N0 D dT cL_law "ReceivablesBookLaw" 7 ret tab room_1 nwLaw) (hN : xNcE E) {Ln i q9 : Nat} {xs : Nat → Int32} (hS : xScr Ln xs E) (hLn : Ln ≤ 2048) (hi : i + 4 ≤ Ln) (hq : q9 < 512) {o9 : Int64} {n : Nat → Int32} {f : Nat → Nat → Int32} {g : Nat → Nat → Int64} {nc ni np nl : Nat} {jc : Nat → Nat → Int32} {jr : Nat → Int64} {k ns : Nat} (hJ : JI n f g nc ni np nl q9) (hk : k ≤ 34 + 8 * q9 + 2 * lGen nl) (hns : ns ≤ 33300 + 100 * q9 + 4 * lCap nl) (next : ∀ (o : Int64) (n : Nat → Int32) (f : Nat → Nat → Int32) (g : Nat → Nat → Int64) (nc ni np nl : Nat) (jc : Nat → Nat → Int32) (jr : Nat → Int64) (k ns : Nat), JI n f g nc ni np nl (q9 + 1) → k ≤ 34 + 8 * (q9 + 1) + 2 * lGen nl → ns ≤ 33300 + 100 * (q9 + 1) + 4 * lCap nl → aW E k ns (xC (xM (xOut o) n f g) nc ni np nl (n 1) f g jc jr) 2412 [(0, .ref 908), (1, .ref 0), (2, .ref 200), (3, .ref 230), (4, .int (nI i))] []) : aW E k ns (xC (xM (xOut o9) n f g) nc ni np nl (n 1) f g jc jr) 1759 [(0, .ref 908), (1, .ref 0), (2, .ref 200), (3, .ref 230), (4, .int (nI i))] [] := by
  have hnl := JI_nl hJ (by omega)
  obtain ⟨hI, ⟨t9, ht, ht2, hG⟩, hLl⟩ := id hJ
  obtain ⟨-, -, -, -, hc6, hi24, hp24, hl16⟩ := id hI
  have hB : nc ≤ 6 ∧ ni ≤ 24 ∧ np ≤ 24 ∧ nl ≤ 16000 := ⟨hc6, hi24, hp24, hl16⟩
  have hS9 : sP n f g nc ni np nl q9 (nc) (ni) (np) (nl) ((oRd (xin (xs (i + 1)) np ∧ xin (xs (i + 2)) ni) (f 22 (24 * (xs (i + 1)).toNatClampNeg + (xs (i + 2)).toNatClampNeg)) n f g)) := (sP_rd hJ)
  refine a_aload_n (i := 1) C dL_law_1759 rfl rfl ?_
  refine a_aload_n (i := 0) C dL_law_1760 rfl rfl ?_
  refine a_iload (i := 4) C dL_law_1761 rfl ?_
  refine a_iconst (v := 1) C dL_law_1763 (by decide) ?_
  refine a_iadd C dL_law_1764 ?_
  refine a_top (nI (i + 1)) (nI_add i 1) ?_
  refine a_scrGet C hS dL_law_1765 (by omega) (by omega) ?_
  refine a_aload_n (i := 0) C dL_law_1766 rfl rfl ?_
  refine a_iload (i := 4) C dL_law_1767 rfl ?_
  refine a_iconst (v := 2) C dL_law_1769 (by decide) ?_
  refine a_iadd C dL_law_1770 ?_
  refine a_top (nI (i + 2)) (nI_add i 2) ?_
  refine a_scrGet C hS dL_law_1771 (by omega) (by omega) ?_
  refine a_aload_n (i := 3) C dL_law_1772 rfl rfl ?_
  refine a_callSN (na := 4) C hN dL_law_1773 ⟨tb845, tb46, tb846, ⟨by decide, by decide, by decide +kernel⟩⟩ tb844 (w_allocated hflags (o9 := o9) hB ) rfl rfl (Nat.le_of_ble_eq_true rfl) ⟨Nat.le_of_ble_eq_true rfl, Nat.le_of_ble_eq_true rfl⟩ ⟨(bud3 (c := 2) hq hk (by decide)).2, (bud4 (c := 12) hq hns (by decide)).2⟩ (fun _ h => h.elim) xav_no (fun r1 hp1 hq1 => ?_)
  by_cases hc : ((oRd (xin (xs (i + 1)) np ∧ xin (xs (i + 2)) ni) (f 22 (24 * (xs (i + 1)).toNatClampNeg + (xs (i + 2)).toNatClampNeg)) n f g)).2.1 0 = 0
  · obtain ⟨rfl, o2, jc2, jr2, hA, -⟩ := hq1
    obtain ⟨e1, rfl⟩ := hA hc
    refine a_istore (i := 5) C dL_law_1776 (by decide) ?_
    refine a_aload_n (i := 2) C dL_law_1778 rfl rfl ?_
    refine a_aload_n (i := 0) C dL_law_1779 rfl rfl ?_
    refine a_iload (i := 4) C dL_law_1780 rfl ?_
    refine a_iconst (v := 1) C dL_law_1782 (by decide) ?_
    refine a_iadd C dL_law_1783 ?_
    refine a_top (nI (i + 1)) (nI_add i 1) ?_
    refine a_scrGet C hS dL_law_1784 (by omega) (by omega) ?_
    refine a_aload_n (i := 0) C dL_law_1785 rfl rfl ?_
    refine a_iload (i := 4) C dL_law_1786 rfl ?_
    refine a_iconst (v := 2) C dL_law_1788 (by decide) ?_
    refine a_iadd C dL_law_1789 ?_
    refine a_top (nI (i + 2)) (nI_add i 2) ?_
    refine a_scrGet C hS dL_law_1790 (by omega) (by omega) ?_
    refine a_hp xCM ?_
    refine a_callV C dL_law_1791 cv_X7_allocated tb1233 (m_X7_allocated hflags hI) rfl rfl xM_0 rfl (Nat.le_of_ble_eq_true rfl) ⟨Nat.le_of_ble_eq_true rfl, Nat.le_of_ble_eq_true rfl⟩ ⟨(bud3 (c := 2) hq hk (by decide)).2, (bud4 (c := 12) hq hns (by decide)).2⟩ (fun _ h => h.elim) xav_no (fun _ _ h => h.elim) (fun r2 hp2 hq2 => ?_)
    obtain ⟨rfl, rfl⟩ := hq2
    refine a_loc [(0, .ref 908), (1, .ref 0), (2, .ref 200), (3, .ref 230), (4, .int (nI i)), (5, .int (((oRd (xin (xs (i + 1)) np ∧ xin (xs (i + 2)) ni) (f 22 (24 * (xs (i + 1)).toNatClampNeg + (xs (i + 2)).toNatClampNeg)) n f g)).2.1 0))] (xsub_cons rfl (xsub_cons rfl (xsub_cons rfl (xsub_cons rfl (xsub_cons rfl (xsub_cons rfl (xsub_nil))))))) ?_
    exact l_tail hflags C (p0 := 1794) dL_law_1794 dL_law_1796 dL_law_1797 dL_law_1800 dL_law_1802 dL_law_1807 dL_law_1809 dL_law_1812 dL_law_1813 dL_law_1814 dL_law_1815 dL_law_1817 dL_law_1818 dL_law_1819 dL_law_1824 (by decide) (bud3 (c := 2) hq hk (by decide)).2 (bud4 (c := 12) hq hns (by decide)).2 (fun _ => e1) (a_hp xCM.symm (next o2 _ _ _ _ _ _ _ jc2 jr2 _ _ (hS9.1 hc) (bud3 (c := 2) hq hk (by decide)).1 (bud4 (c := 12) hq hns (by decide)).1))
  · obtain ⟨rfl, o2, jc2, jr2, -, hF⟩ := hq1
    obtain rfl := hF hc
    refine a_istore (i := 5) C dL_law_1776 (by decide) ?_
    refine a_aload_n (i := 2) C dL_law_1778 rfl rfl ?_
    refine a_aload_n (i := 0) C dL_law_1779 rfl rfl ?_
    refine a_iload (i := 4) C dL_law_1780 rfl ?_
    refine a_iconst (v := 1) C dL_law_1782 (by decide) ?_
    refine a_iadd C dL_law_1783 ?_
    refine a_top (nI (i + 1)) (nI_add i 1) ?_
    refine a_scrGet C hS dL_law_1784 (by omega) (by omega) ?_
    refine a_aload_n (i := 0) C dL_law_1785 rfl rfl ?_
    refine a_iload (i := 4) C dL_law_1786 rfl ?_
    refine a_iconst (v := 2) C dL_law_1788 (by decide) ?_
    refine a_iadd C dL_law_1789 ?_
    refine a_top (nI (i + 2)) (nI_add i 2) ?_
    refine a_scrGet C hS dL_law_1790 (by omega) (by omega) ?_
    refine a_hp xCM ?_
    refine a_callV C dL_law_1791 cv_X7_allocated tb1233 (m_X7_allocated hflags hI) rfl rfl xM_0 rfl (Nat.le_of_ble_eq_true rfl) ⟨Nat.le_of_ble_eq_true rfl, Nat.le_of_ble_eq_true rfl⟩ ⟨(bud3 (c := 2) hq hk (by decide)).2, (bud4 (c := 12) hq hns (by decide)).2⟩ (fun _ h => h.elim) xav_no (fun _ _ h => h.elim) (fun r2 hp2 hq2 => ?_)
    obtain ⟨rfl, rfl⟩ := hq2
    refine a_loc [(0, .ref 908), (1, .ref 0), (2, .ref 200), (3, .ref 230), (4, .int (nI i)), (5, .int (((oRd (xin (xs (i + 1)) np ∧ xin (xs (i + 2)) ni) (f 22 (24 * (xs (i + 1)).toNatClampNeg + (xs (i + 2)).toNatClampNeg)) n f g)).2.1 0))] (xsub_cons rfl (xsub_cons rfl (xsub_cons rfl (xsub_cons rfl (xsub_cons rfl (xsub_cons rfl (xsub_nil))))))) ?_
    obtain ⟨eF, eG, e1, hJ2⟩ := hS9.2 hc
    refine l_tail hflags C (p0 := 1794) dL_law_1794 dL_law_1796 dL_law_1797 dL_law_1800 dL_law_1802 dL_law_1807 dL_law_1809 dL_law_1812 dL_law_1813 dL_law_1814 dL_law_1815 dL_law_1817 dL_law_1818 dL_law_1819 dL_law_1824 (by decide) (bud3 (c := 2) hq hk (by decide)).2 (bud4 (c := 12) hq hns (by decide)).2 (fun z => absurd z hc) ?_
    refine a_hp (show _ = xC (xM (xOut o2) ((oRd (xin (xs (i + 1)) np ∧ xin (xs (i + 2)) ni) (f 22 (24 * (xs (i + 1)).toNatClampNeg + (xs (i + 2)).toNatClampNeg)) n f g)).2.1 f g) nc ni np nl (((oRd (xin (xs (i + 1)) np ∧ xin (xs (i + 2)) ni) (f 22 (24 * (xs (i + 1)).toNatClampNeg + (xs (i + 2)).toNatClampNeg)) n f g)).2.1 1) f g jc2 jr2 by rw [eF, eG, e1, xCM]) ?_
    exact next o2 _ _ _ _ _ _ _ jc2 jr2 _ _ hJ2 (bud3 (c := 2) hq hk (by decide)).1 (bud4 (c := 12) hq hns (by decide)).1
set_option maxRecDepth 100000 in
set_option maxHeartbeats 4000000 in
theorem lc_unallocated {E : xEnv} {l : Launch} {N0 : Nat} {D : va_G} {dT : Nat → ClassId} {ret : Option FieldType} {tab : List ExceptionTableEntry} (hflags : l.stackTraces = false) (C : aC E l N0 D dT cL_law "ReceivablesBookLaw" 7 ret tab room_1 nwLaw) (hN : xNcE E) {Ln i q9 : Nat} {xs : Nat → Int32} (hS : xScr Ln xs E) (hLn : Ln ≤ 2048) (hi : i + 4 ≤ Ln) (hq : q9 < 512) {o9 : Int64} {n : Nat → Int32} {f : Nat → Nat → Int32} {g : Nat → Nat → Int64} {nc ni np nl : Nat} {jc : Nat → Nat → Int32} {jr : Nat → Int64} {k ns : Nat} (hJ : JI n f g nc ni np nl q9) (hk : k ≤ 34 + 8 * q9 + 2 * lGen nl) (hns : ns ≤ 33300 + 100 * q9 + 4 * lCap nl) (next : ∀ (o : Int64) (n : Nat → Int32) (f : Nat → Nat → Int32) (g : Nat → Nat → Int64) (nc ni np nl : Nat) (jc : Nat → Nat → Int32) (jr : Nat → Int64) (k ns : Nat), JI n f g nc ni np nl (q9 + 1) → k ≤ 34 + 8 * (q9 + 1) + 2 * lGen nl → ns ≤ 33300 + 100 * (q9 + 1) + 4 * lCap nl → aW E k ns (xC (xM (xOut o) n f g) nc ni np nl (n 1) f g jc jr) 2412 [(0, .ref 908), (1, .ref 0), (2, .ref 200), (3, .ref 230), (4, .int (nI i))] []) : aW E k ns (xC (xM (xOut o9) n f g) nc ni np nl (n 1) f g jc jr) 1827 [(0, .ref 908), (1, .ref 0), (2, .ref 200), (3, .ref 230), (4, .int (nI i))] [] := by
  have hnl := JI_nl hJ (by omega)
  obtain ⟨hI, ⟨t9, ht, ht2, hG⟩, hLl⟩ := id hJ
  obtain ⟨-, -, -, -, hc6, hi24, hp24, hl16⟩ := id hI
  have hB : nc ≤ 6 ∧ ni ≤ 24 ∧ np ≤ 24 ∧ nl ≤ 16000 := ⟨hc6, hi24, hp24, hl16⟩
  have hRV : ∀ p, p < np → ¬ f 21 p = 0 → f 20 p = 0 := fun p hp z => (hG.2.2.2.1.2.2.2.2 p hp z).1
  have hS9 : sP n f g nc ni np nl q9 (nc) (ni) (np) (nl) ((oRd (xin (xs (i + 1)) np) (f 20 (xs (i + 1)).toNatClampNeg) n f g)) := (sP_rd hJ)
  refine a_aload_n (i := 1) C dL_law_1827 rfl rfl ?_
  refine a_aload_n (i := 0) C dL_law_1828 rfl rfl ?_
  refine a_iload (i := 4) C dL_law_1829 rfl ?_
  refine a_iconst (v := 1) C dL_law_1831 (by decide) ?_
  refine a_iadd C dL_law_1832 ?_
  refine a_top (nI (i + 1)) (nI_add i 1) ?_
  refine a_scrGet C hS dL_law_1833 (by omega) (by omega) ?_
  refine a_aload_n (i := 3) C dL_law_1834 rfl rfl ?_
  refine a_callSN (na := 3) C hN dL_law_1835 ⟨tb852, tb46, tb853, ⟨by decide, by decide, by decide +kernel⟩⟩ tb851 (w_unallocated hflags (o9 := o9) hB hRV) rfl rfl (Nat.le_of_ble_eq_true rfl) ⟨Nat.le_of_ble_eq_true rfl, Nat.le_of_ble_eq_true rfl⟩ ⟨(bud3 (c := 1) hq hk (by decide)).2, (bud4 (c := 6) hq hns (by decide)).2⟩ (fun _ h => h.elim) xav_no (fun r1 hp1 hq1 => ?_)
  by_cases hc : ((oRd (xin (xs (i + 1)) np) (f 20 (xs (i + 1)).toNatClampNeg) n f g)).2.1 0 = 0
  · obtain ⟨rfl, o2, jc2, jr2, hA, -⟩ := hq1
    obtain ⟨e1, rfl⟩ := hA hc
    refine a_istore (i := 5) C dL_law_1838 (by decide) ?_
    refine a_aload_n (i := 2) C dL_law_1840 rfl rfl ?_
    refine a_aload_n (i := 0) C dL_law_1841 rfl rfl ?_
    refine a_iload (i := 4) C dL_law_1842 rfl ?_
    refine a_iconst (v := 1) C dL_law_1844 (by decide) ?_
    refine a_iadd C dL_law_1845 ?_
    refine a_top (nI (i + 1)) (nI_add i 1) ?_
    refine a_scrGet C hS dL_law_1846 (by omega) (by omega) ?_
    refine a_hp xCM ?_
    refine a_callV C dL_law_1847 cv_X7_unallocated tb1237 (m_X7_unallocated hflags hI) rfl rfl xM_0 rfl (Nat.le_of_ble_eq_true rfl) ⟨Nat.le_of_ble_eq_true rfl, Nat.le_of_ble_eq_true rfl⟩ ⟨(bud3 (c := 1) hq hk (by decide)).2, (bud4 (c := 6) hq hns (by decide)).2⟩ (fun _ h => h.elim) xav_no (fun _ _ h => h.elim) (fun r2 hp2 hq2 => ?_)
    obtain ⟨rfl, rfl⟩ := hq2
    refine a_loc [(0, .ref 908), (1, .ref 0), (2, .ref 200), (3, .ref 230), (4, .int (nI i)), (5, .int (((oRd (xin (xs (i + 1)) np) (f 20 (xs (i + 1)).toNatClampNeg) n f g)).2.1 0))] (xsub_cons rfl (xsub_cons rfl (xsub_cons rfl (xsub_cons rfl (xsub_cons rfl (xsub_cons rfl (xsub_nil))))))) ?_
    exact l_tail hflags C (p0 := 1850) dL_law_1850 dL_law_1852 dL_law_1853 dL_law_1856 dL_law_1858 dL_law_1863 dL_law_1865 dL_law_1868 dL_law_1869 dL_law_1870 dL_law_1871 dL_law_1873 dL_law_1874 dL_law_1875 dL_law_1880 (by decide) (bud3 (c := 1) hq hk (by decide)).2 (bud4 (c := 6) hq hns (by decide)).2 (fun _ => e1) (a_hp xCM.symm (next o2 _ _ _ _ _ _ _ jc2 jr2 _ _ (hS9.1 hc) (bud3 (c := 1) hq hk (by decide)).1 (bud4 (c := 6) hq hns (by decide)).1))
  · obtain ⟨rfl, o2, jc2, jr2, -, hF⟩ := hq1
    obtain rfl := hF hc
    refine a_istore (i := 5) C dL_law_1838 (by decide) ?_
    refine a_aload_n (i := 2) C dL_law_1840 rfl rfl ?_
    refine a_aload_n (i := 0) C dL_law_1841 rfl rfl ?_
    refine a_iload (i := 4) C dL_law_1842 rfl ?_
    refine a_iconst (v := 1) C dL_law_1844 (by decide) ?_
    refine a_iadd C dL_law_1845 ?_
    refine a_top (nI (i + 1)) (nI_add i 1) ?_
    refine a_scrGet C hS dL_law_1846 (by omega) (by omega) ?_
    refine a_hp xCM ?_
    refine a_callV C dL_law_1847 cv_X7_unallocated tb1237 (m_X7_unallocated hflags hI) rfl rfl xM_0 rfl (Nat.le_of_ble_eq_true rfl) ⟨Nat.le_of_ble_eq_true rfl, Nat.le_of_ble_eq_true rfl⟩ ⟨(bud3 (c := 1) hq hk (by decide)).2, (bud4 (c := 6) hq hns (by decide)).2⟩ (fun _ h => h.elim) xav_no (fun _ _ h => h.elim) (fun r2 hp2 hq2 => ?_)
    obtain ⟨rfl, rfl⟩ := hq2
    refine a_loc [(0, .ref 908), (1, .ref 0), (2, .ref 200), (3, .ref 230), (4, .int (nI i)), (5, .int (((oRd (xin (xs (i + 1)) np) (f 20 (xs (i + 1)).toNatClampNeg) n f g)).2.1 0))] (xsub_cons rfl (xsub_cons rfl (xsub_cons rfl (xsub_cons rfl (xsub_cons rfl (xsub_cons rfl (xsub_nil))))))) ?_
    obtain ⟨eF, eG, e1, hJ2⟩ := hS9.2 hc
    refine l_tail hflags C (p0 := 1850) dL_law_1850 dL_law_1852 dL_law_1853 dL_law_1856 dL_law_1858 dL_law_1863 dL_law_1865 dL_law_1868 dL_law_1869 dL_law_1870 dL_law_1871 dL_law_1873 dL_law_1874 dL_law_1875 dL_law_1880 (by decide) (bud3 (c := 1) hq hk (by decide)).2 (bud4 (c := 6) hq hns (by decide)).2 (fun z => absurd z hc) ?_
    refine a_hp (show _ = xC (xM (xOut o2) ((oRd (xin (xs (i + 1)) np) (f 20 (xs (i + 1)).toNatClampNeg) n f g)).2.1 f g) nc ni np nl (((oRd (xin (xs (i + 1)) np) (f 20 (xs (i + 1)).toNatClampNeg) n f g)).2.1 1) f g jc2 jr2 by rw [eF, eG, e1, xCM]) ?_
    exact next o2 _ _ _ _ _ _ _ jc2 jr2 _ _ hJ2 (bud3 (c := 1) hq hk (by decide)).1 (bud4 (c := 6) hq hns (by decide)).1
set_option maxRecDepth 100000 in
set_option maxHeartbeats 4000000 in
theorem lc_balance {E : xEnv} {l : Launch} {N0 : Nat} {D : va_G} {dT : Nat → ClassId} {ret : Option FieldType} {tab : List ExceptionTableEntry} (hflags : l.stackTraces = false) (C : aC E l N0 D dT cL_law "ReceivablesBookLaw" 7 ret tab room_1 nwLaw) (hN : xNcE E) {Ln i q9 : Nat} {xs : Nat → Int32} (hS : xScr Ln xs E) (hLn : Ln ≤ 2048) (hi : i + 4 ≤ Ln) (hq : q9 < 512) {o9 : Int64} {n : Nat → Int32} {f : Nat → Nat → Int32} {g : Nat → Nat → Int64} {nc ni np nl : Nat} {jc : Nat → Nat → Int32} {jr : Nat → Int64} {k ns : Nat} (hJ : JI n f g nc ni np nl q9) (hk : k ≤ 34 + 8 * q9 + 2 * lGen nl) (hns : ns ≤ 33300 + 100 * q9 + 4 * lCap nl) (next : ∀ (o : Int64) (n : Nat → Int32) (f : Nat → Nat → Int32) (g : Nat → Nat → Int64) (nc ni np nl : Nat) (jc : Nat → Nat → Int32) (jr : Nat → Int64) (k ns : Nat), JI n f g nc ni np nl (q9 + 1) → k ≤ 34 + 8 * (q9 + 1) + 2 * lGen nl → ns ≤ 33300 + 100 * (q9 + 1) + 4 * lCap nl → aW E k ns (xC (xM (xOut o) n f g) nc ni np nl (n 1) f g jc jr) 2412 [(0, .ref 908), (1, .ref 0), (2, .ref 200), (3, .ref 230), (4, .int (nI i))] []) : aW E k ns (xC (xM (xOut o9) n f g) nc ni np nl (n 1) f g jc jr) 1883 [(0, .ref 908), (1, .ref 0), (2, .ref 200), (3, .ref 230), (4, .int (nI i))] [] := by
  have hnl := JI_nl hJ (by omega)
  obtain ⟨hI, ⟨t9, ht, ht2, hG⟩, hLl⟩ := id hJ
  obtain ⟨-, -, -, -, hc6, hi24, hp24, hl16⟩ := id hI
  have hB : nc ≤ 6 ∧ ni ≤ 24 ∧ np ≤ 24 ∧ nl ≤ 16000 := ⟨hc6, hi24, hp24, hl16⟩
  have hOe := hG.1.1
  have hPe := hG.1.2.1
  have hRV : ∀ p, p < np → ¬ f 21 p = 0 → f 20 p = 0 := fun p hp z => (hG.2.2.2.1.2.2.2.2 p hp z).1
  have hS9 : sP n f g nc ni np nl q9 (nc) (ni) (np) (nl) ((oRd (xin (xs (i + 1)) nc) (xbal f (xs (i + 1)) ni np) n f g)) := (sP_rd hJ)
  refine a_aload_n (i := 1) C dL_law_1883 rfl rfl ?_
  refine a_aload_n (i := 0) C dL_law_1884 rfl rfl ?_
  refine a_iload (i := 4) C dL_law_1885 rfl ?_
  refine a_iconst (v := 1) C dL_law_1887 (by decide) ?_
  refine a_iadd C dL_law_1888 ?_
  refine a_top (nI (i + 1)) (nI_add i 1) ?_
  refine a_scrGet C hS dL_law_1889 (by omega) (by omega) ?_
  refine a_aload_n (i := 3) C dL_law_1890 rfl rfl ?_
  refine a_callSN (na := 3) C hN dL_law_1891 ⟨tb859, tb46, tb860, ⟨by decide, by decide, by decide +kernel⟩⟩ tb858 (w_balance hflags (o9 := o9) hB hOe hPe hRV) rfl rfl (Nat.le_of_ble_eq_true rfl) ⟨Nat.le_of_ble_eq_true rfl, Nat.le_of_ble_eq_true rfl⟩ ⟨(bud3 (c := 1) hq hk (by decide)).2, (bud4 (c := 6) hq hns (by decide)).2⟩ (fun _ h => h.elim) xav_no (fun r1 hp1 hq1 => ?_)
  by_cases hc : ((oRd (xin (xs (i + 1)) nc) (xbal f (xs (i + 1)) ni np) n f g)).2.1 0 = 0
  · obtain ⟨rfl, o2, jc2, jr2, hA, -⟩ := hq1
    obtain ⟨e1, rfl⟩ := hA hc
    refine a_istore (i := 5) C dL_law_1894 (by decide) ?_
    refine a_aload_n (i := 2) C dL_law_1896 rfl rfl ?_
    refine a_aload_n (i := 0) C dL_law_1897 rfl rfl ?_
    refine a_iload (i := 4) C dL_law_1898 rfl ?_
    refine a_iconst (v := 1) C dL_law_1900 (by decide) ?_
    refine a_iadd C dL_law_1901 ?_
    refine a_top (nI (i + 1)) (nI_add i 1) ?_
    refine a_scrGet C hS dL_law_1902 (by omega) (by omega) ?_
    refine a_hp xCM ?_
    refine a_callV C dL_law_1903 cv_X7_balance tb1241 (m_X7_balance hflags hI) rfl rfl xM_0 rfl (Nat.le_of_ble_eq_true rfl) ⟨Nat.le_of_ble_eq_true rfl, Nat.le_of_ble_eq_true rfl⟩ ⟨(bud3 (c := 1) hq hk (by decide)).2, (bud4 (c := 6) hq hns (by decide)).2⟩ (fun _ h => h.elim) xav_no (fun _ _ h => h.elim) (fun r2 hp2 hq2 => ?_)
    obtain ⟨rfl, rfl⟩ := hq2
    refine a_loc [(0, .ref 908), (1, .ref 0), (2, .ref 200), (3, .ref 230), (4, .int (nI i)), (5, .int (((oRd (xin (xs (i + 1)) nc) (xbal f (xs (i + 1)) ni np) n f g)).2.1 0))] (xsub_cons rfl (xsub_cons rfl (xsub_cons rfl (xsub_cons rfl (xsub_cons rfl (xsub_cons rfl (xsub_nil))))))) ?_
    exact l_tail hflags C (p0 := 1906) dL_law_1906 dL_law_1908 dL_law_1909 dL_law_1912 dL_law_1914 dL_law_1919 dL_law_1921 dL_law_1924 dL_law_1925 dL_law_1926 dL_law_1927 dL_law_1929 dL_law_1930 dL_law_1931 dL_law_1936 (by decide) (bud3 (c := 1) hq hk (by decide)).2 (bud4 (c := 6) hq hns (by decide)).2 (fun _ => e1) (a_hp xCM.symm (next o2 _ _ _ _ _ _ _ jc2 jr2 _ _ (hS9.1 hc) (bud3 (c := 1) hq hk (by decide)).1 (bud4 (c := 6) hq hns (by decide)).1))
  · obtain ⟨rfl, o2, jc2, jr2, -, hF⟩ := hq1
    obtain rfl := hF hc
    refine a_istore (i := 5) C dL_law_1894 (by decide) ?_
    refine a_aload_n (i := 2) C dL_law_1896 rfl rfl ?_
    refine a_aload_n (i := 0) C dL_law_1897 rfl rfl ?_
    refine a_iload (i := 4) C dL_law_1898 rfl ?_
    refine a_iconst (v := 1) C dL_law_1900 (by decide) ?_
    refine a_iadd C dL_law_1901 ?_
    refine a_top (nI (i + 1)) (nI_add i 1) ?_
    refine a_scrGet C hS dL_law_1902 (by omega) (by omega) ?_
    refine a_hp xCM ?_
    refine a_callV C dL_law_1903 cv_X7_balance tb1241 (m_X7_balance hflags hI) rfl rfl xM_0 rfl (Nat.le_of_ble_eq_true rfl) ⟨Nat.le_of_ble_eq_true rfl, Nat.le_of_ble_eq_true rfl⟩ ⟨(bud3 (c := 1) hq hk (by decide)).2, (bud4 (c := 6) hq hns (by decide)).2⟩ (fun _ h => h.elim) xav_no (fun _ _ h => h.elim) (fun r2 hp2 hq2 => ?_)
    obtain ⟨rfl, rfl⟩ := hq2
    refine a_loc [(0, .ref 908), (1, .ref 0), (2, .ref 200), (3, .ref 230), (4, .int (nI i)), (5, .int (((oRd (xin (xs (i + 1)) nc) (xbal f (xs (i + 1)) ni np) n f g)).2.1 0))] (xsub_cons rfl (xsub_cons rfl (xsub_cons rfl (xsub_cons rfl (xsub_cons rfl (xsub_cons rfl (xsub_nil))))))) ?_
    obtain ⟨eF, eG, e1, hJ2⟩ := hS9.2 hc
    refine l_tail hflags C (p0 := 1906) dL_law_1906 dL_law_1908 dL_law_1909 dL_law_1912 dL_law_1914 dL_law_1919 dL_law_1921 dL_law_1924 dL_law_1925 dL_law_1926 dL_law_1927 dL_law_1929 dL_law_1930 dL_law_1931 dL_law_1936 (by decide) (bud3 (c := 1) hq hk (by decide)).2 (bud4 (c := 6) hq hns (by decide)).2 (fun z => absurd z hc) ?_
    refine a_hp (show _ = xC (xM (xOut o2) ((oRd (xin (xs (i + 1)) nc) (xbal f (xs (i + 1)) ni np) n f g)).2.1 f g) nc ni np nl (((oRd (xin (xs (i + 1)) nc) (xbal f (xs (i + 1)) ni np) n f g)).2.1 1) f g jc2 jr2 by rw [eF, eG, e1, xCM]) ?_
    exact next o2 _ _ _ _ _ _ _ jc2 jr2 _ _ hJ2 (bud3 (c := 1) hq hk (by decide)).1 (bud4 (c := 6) hq hns (by decide)).1
set_option maxRecDepth 100000 in
set_option maxHeartbeats 4000000 in
theorem lc_bucketOf {E : xEnv} {l : Launch} {N0 : Nat} {D : va_G} {dT : Nat → ClassId} {ret : Option FieldType} {tab : List ExceptionTableEntry} (hflags : l.stackTraces = false) (C : aC E l N0 D dT cL_law "ReceivablesBookLaw" 7 ret tab room_1 nwLaw) (hN : xNcE E) {Ln i q9 : Nat} {xs : Nat → Int32} (hS : xScr Ln xs E) (hLn : Ln ≤ 2048) (hi : i + 4 ≤ Ln) (hq : q9 < 512) {o9 : Int64} {n : Nat → Int32} {f : Nat → Nat → Int32} {g : Nat → Nat → Int64} {nc ni np nl : Nat} {jc : Nat → Nat → Int32} {jr : Nat → Int64} {k ns : Nat} (hJ : JI n f g nc ni np nl q9) (hk : k ≤ 34 + 8 * q9 + 2 * lGen nl) (hns : ns ≤ 33300 + 100 * q9 + 4 * lCap nl) (next : ∀ (o : Int64) (n : Nat → Int32) (f : Nat → Nat → Int32) (g : Nat → Nat → Int64) (nc ni np nl : Nat) (jc : Nat → Nat → Int32) (jr : Nat → Int64) (k ns : Nat), JI n f g nc ni np nl (q9 + 1) → k ≤ 34 + 8 * (q9 + 1) + 2 * lGen nl → ns ≤ 33300 + 100 * (q9 + 1) + 4 * lCap nl → aW E k ns (xC (xM (xOut o) n f g) nc ni np nl (n 1) f g jc jr) 2412 [(0, .ref 908), (1, .ref 0), (2, .ref 200), (3, .ref 230), (4, .int (nI i))] []) : aW E k ns (xC (xM (xOut o9) n f g) nc ni np nl (n 1) f g jc jr) 1939 [(0, .ref 908), (1, .ref 0), (2, .ref 200), (3, .ref 230), (4, .int (nI i))] [] := by
  have hnl := JI_nl hJ (by omega)
  obtain ⟨hI, ⟨t9, ht, ht2, hG⟩, hLl⟩ := id hJ
  obtain ⟨-, -, -, -, hc6, hi24, hp24, hl16⟩ := id hI
  have hB : nc ≤ 6 ∧ ni ≤ 24 ∧ np ≤ 24 ∧ nl ≤ 16000 := ⟨hc6, hi24, hp24, hl16⟩
  have hS9 : sP n f g nc ni np nl q9 (nc) (ni) (np) (nl) ((oRd (xin (xs (i + 1)) ni) (xbk (n 1 - f 12 (xs (i + 1)).toNatClampNeg)) n f g)) := (sP_rd hJ)
  refine a_aload_n (i := 1) C dL_law_1939 rfl rfl ?_
  refine a_aload_n (i := 0) C dL_law_1940 rfl rfl ?_
  refine a_iload (i := 4) C dL_law_1941 rfl ?_
  refine a_iconst (v := 1) C dL_law_1943 (by decide) ?_
  refine a_iadd C dL_law_1944 ?_
  refine a_top (nI (i + 1)) (nI_add i 1) ?_
  refine a_scrGet C hS dL_law_1945 (by omega) (by omega) ?_
  refine a_aload_n (i := 3) C dL_law_1946 rfl rfl ?_
  refine a_callSN (na := 3) C hN dL_law_1947 ⟨tb866, tb46, tb867, ⟨by decide, by decide, by decide +kernel⟩⟩ tb865 (w_bucketOf hflags (o9 := o9) hB ) rfl rfl (Nat.le_of_ble_eq_true rfl) ⟨Nat.le_of_ble_eq_true rfl, Nat.le_of_ble_eq_true rfl⟩ ⟨(bud3 (c := 1) hq hk (by decide)).2, (bud4 (c := 6) hq hns (by decide)).2⟩ (fun _ h => h.elim) xav_no (fun r1 hp1 hq1 => ?_)
  by_cases hc : ((oRd (xin (xs (i + 1)) ni) (xbk (n 1 - f 12 (xs (i + 1)).toNatClampNeg)) n f g)).2.1 0 = 0
  · obtain ⟨rfl, o2, jc2, jr2, hA, -⟩ := hq1
    obtain ⟨e1, rfl⟩ := hA hc
    refine a_istore (i := 5) C dL_law_1950 (by decide) ?_
    refine a_aload_n (i := 2) C dL_law_1952 rfl rfl ?_
    refine a_aload_n (i := 0) C dL_law_1953 rfl rfl ?_
    refine a_iload (i := 4) C dL_law_1954 rfl ?_
    refine a_iconst (v := 1) C dL_law_1956 (by decide) ?_
    refine a_iadd C dL_law_1957 ?_
    refine a_top (nI (i + 1)) (nI_add i 1) ?_
    refine a_scrGet C hS dL_law_1958 (by omega) (by omega) ?_
    refine a_hp xCM ?_
    refine a_callV C dL_law_1959 cv_X7_bucketOf tb1245 (m_X7_bucketOf hflags hI) rfl rfl xM_0 rfl (Nat.le_of_ble_eq_true rfl) ⟨Nat.le_of_ble_eq_true rfl, Nat.le_of_ble_eq_true rfl⟩ ⟨(bud3 (c := 1) hq hk (by decide)).2, (bud4 (c := 6) hq hns (by decide)).2⟩ (fun _ h => h.elim) xav_no (fun _ _ h => h.elim) (fun r2 hp2 hq2 => ?_)
    obtain ⟨rfl, rfl⟩ := hq2
    refine a_loc [(0, .ref 908), (1, .ref 0), (2, .ref 200), (3, .ref 230), (4, .int (nI i)), (5, .int (((oRd (xin (xs (i + 1)) ni) (xbk (n 1 - f 12 (xs (i + 1)).toNatClampNeg)) n f g)).2.1 0))] (xsub_cons rfl (xsub_cons rfl (xsub_cons rfl (xsub_cons rfl (xsub_cons rfl (xsub_cons rfl (xsub_nil))))))) ?_
    exact l_tail hflags C (p0 := 1962) dL_law_1962 dL_law_1964 dL_law_1965 dL_law_1968 dL_law_1970 dL_law_1975 dL_law_1977 dL_law_1980 dL_law_1981 dL_law_1982 dL_law_1983 dL_law_1985 dL_law_1986 dL_law_1987 dL_law_1992 (by decide) (bud3 (c := 1) hq hk (by decide)).2 (bud4 (c := 6) hq hns (by decide)).2 (fun _ => e1) (a_hp xCM.symm (next o2 _ _ _ _ _ _ _ jc2 jr2 _ _ (hS9.1 hc) (bud3 (c := 1) hq hk (by decide)).1 (bud4 (c := 6) hq hns (by decide)).1))
  · obtain ⟨rfl, o2, jc2, jr2, -, hF⟩ := hq1
    obtain rfl := hF hc
    refine a_istore (i := 5) C dL_law_1950 (by decide) ?_
    refine a_aload_n (i := 2) C dL_law_1952 rfl rfl ?_
    refine a_aload_n (i := 0) C dL_law_1953 rfl rfl ?_
    refine a_iload (i := 4) C dL_law_1954 rfl ?_
    refine a_iconst (v := 1) C dL_law_1956 (by decide) ?_
    refine a_iadd C dL_law_1957 ?_
    refine a_top (nI (i + 1)) (nI_add i 1) ?_
    refine a_scrGet C hS dL_law_1958 (by omega) (by omega) ?_
    refine a_hp xCM ?_
    refine a_callV C dL_law_1959 cv_X7_bucketOf tb1245 (m_X7_bucketOf hflags hI) rfl rfl xM_0 rfl (Nat.le_of_ble_eq_true rfl) ⟨Nat.le_of_ble_eq_true rfl, Nat.le_of_ble_eq_true rfl⟩ ⟨(bud3 (c := 1) hq hk (by decide)).2, (bud4 (c := 6) hq hns (by decide)).2⟩ (fun _ h => h.elim) xav_no (fun _ _ h => h.elim) (fun r2 hp2 hq2 => ?_)
    obtain ⟨rfl, rfl⟩ := hq2
    refine a_loc [(0, .ref 908), (1, .ref 0), (2, .ref 200), (3, .ref 230), (4, .int (nI i)), (5, .int (((oRd (xin (xs (i + 1)) ni) (xbk (n 1 - f 12 (xs (i + 1)).toNatClampNeg)) n f g)).2.1 0))] (xsub_cons rfl (xsub_cons rfl (xsub_cons rfl (xsub_cons rfl (xsub_cons rfl (xsub_cons rfl (xsub_nil))))))) ?_
    obtain ⟨eF, eG, e1, hJ2⟩ := hS9.2 hc
    refine l_tail hflags C (p0 := 1962) dL_law_1962 dL_law_1964 dL_law_1965 dL_law_1968 dL_law_1970 dL_law_1975 dL_law_1977 dL_law_1980 dL_law_1981 dL_law_1982 dL_law_1983 dL_law_1985 dL_law_1986 dL_law_1987 dL_law_1992 (by decide) (bud3 (c := 1) hq hk (by decide)).2 (bud4 (c := 6) hq hns (by decide)).2 (fun z => absurd z hc) ?_
    refine a_hp (show _ = xC (xM (xOut o2) ((oRd (xin (xs (i + 1)) ni) (xbk (n 1 - f 12 (xs (i + 1)).toNatClampNeg)) n f g)).2.1 f g) nc ni np nl (((oRd (xin (xs (i + 1)) ni) (xbk (n 1 - f 12 (xs (i + 1)).toNatClampNeg)) n f g)).2.1 1) f g jc2 jr2 by rw [eF, eG, e1, xCM]) ?_
    exact next o2 _ _ _ _ _ _ _ jc2 jr2 _ _ hJ2 (bud3 (c := 1) hq hk (by decide)).1 (bud4 (c := 6) hq hns (by decide)).1
set_option maxRecDepth 100000 in
set_option maxHeartbeats 4000000 in
theorem lc_ageing {E : xEnv} {l : Launch} {N0 : Nat} {D : va_G} {dT : Nat → ClassId} {ret : Option FieldType} {tab : List ExceptionTableEntry} (hflags : l.stackTraces = false) (C : aC E l N0 D dT cL_law "ReceivablesBookLaw" 7 ret tab room_1 nwLaw) (hN : xNcE E) {Ln i q9 : Nat} {xs : Nat → Int32} (hS : xScr Ln xs E) (hLn : Ln ≤ 2048) (hi : i + 4 ≤ Ln) (hq : q9 < 512) {o9 : Int64} {n : Nat → Int32} {f : Nat → Nat → Int32} {g : Nat → Nat → Int64} {nc ni np nl : Nat} {jc : Nat → Nat → Int32} {jr : Nat → Int64} {k ns : Nat} (hJ : JI n f g nc ni np nl q9) (hk : k ≤ 34 + 8 * q9 + 2 * lGen nl) (hns : ns ≤ 33300 + 100 * q9 + 4 * lCap nl) (next : ∀ (o : Int64) (n : Nat → Int32) (f : Nat → Nat → Int32) (g : Nat → Nat → Int64) (nc ni np nl : Nat) (jc : Nat → Nat → Int32) (jr : Nat → Int64) (k ns : Nat), JI n f g nc ni np nl (q9 + 1) → k ≤ 34 + 8 * (q9 + 1) + 2 * lGen nl → ns ≤ 33300 + 100 * (q9 + 1) + 4 * lCap nl → aW E k ns (xC (xM (xOut o) n f g) nc ni np nl (n 1) f g jc jr) 2412 [(0, .ref 908), (1, .ref 0), (2, .ref 200), (3, .ref 230), (4, .int (nI i))] []) : aW E k ns (xC (xM (xOut o9) n f g) nc ni np nl (n 1) f g jc jr) 1995 [(0, .ref 908), (1, .ref 0), (2, .ref 200), (3, .ref 230), (4, .int (nI i))] [] := by
  have hnl := JI_nl hJ (by omega)
  obtain ⟨hI, ⟨t9, ht, ht2, hG⟩, hLl⟩ := id hJ
  obtain ⟨-, -, -, -, hc6, hi24, hp24, hl16⟩ := id hI
  have hB : nc ≤ 6 ∧ ni ≤ 24 ∧ np ≤ 24 ∧ nl ≤ 16000 := ⟨hc6, hi24, hp24, hl16⟩
  have hOe := hG.1.1
  have hS9 : sP n f g nc ni np nl q9 (nc) (ni) (np) (nl) ((oRd (xin (xs (i + 1)) nc ∧ (0 ≤ (xs (i + 2)) ∧ (xs (i + 2)) ≤ 4)) (xsum (xage n f (xs (i + 1)) (xs (i + 2))) ni) n f g)) := (sP_rd hJ)
  refine a_aload_n (i := 1) C dL_law_1995 rfl rfl ?_
  refine a_aload_n (i := 0) C dL_law_1996 rfl rfl ?_
  refine a_iload (i := 4) C dL_law_1997 rfl ?_
  refine a_iconst (v := 1) C dL_law_1999 (by decide) ?_
  refine a_iadd C dL_law_2000 ?_
  refine a_top (nI (i + 1)) (nI_add i 1) ?_
  refine a_scrGet C hS dL_law_2001 (by omega) (by omega) ?_
  refine a_aload_n (i := 0) C dL_law_2002 rfl rfl ?_
  refine a_iload (i := 4) C dL_law_2003 rfl ?_
  refine a_iconst (v := 2) C dL_law_2005 (by decide) ?_
  refine a_iadd C dL_law_2006 ?_
  refine a_top (nI (i + 2)) (nI_add i 2) ?_
  refine a_scrGet C hS dL_law_2007 (by omega) (by omega) ?_
  refine a_aload_n (i := 3) C dL_law_2008 rfl rfl ?_
  refine a_callSN (na := 4) C hN dL_law_2009 ⟨tb877, tb46, tb878, ⟨by decide, by decide, by decide +kernel⟩⟩ tb876 (w_ageing hflags (o9 := o9) hB hOe) rfl rfl (Nat.le_of_ble_eq_true rfl) ⟨Nat.le_of_ble_eq_true rfl, Nat.le_of_ble_eq_true rfl⟩ ⟨(bud3 (c := 2) hq hk (by decide)).2, (bud4 (c := 12) hq hns (by decide)).2⟩ (fun _ h => h.elim) xav_no (fun r1 hp1 hq1 => ?_)
  by_cases hc : ((oRd (xin (xs (i + 1)) nc ∧ (0 ≤ (xs (i + 2)) ∧ (xs (i + 2)) ≤ 4)) (xsum (xage n f (xs (i + 1)) (xs (i + 2))) ni) n f g)).2.1 0 = 0
  · obtain ⟨rfl, o2, jc2, jr2, hA, -⟩ := hq1
    obtain ⟨e1, rfl⟩ := hA hc
    refine a_istore (i := 5) C dL_law_2012 (by decide) ?_
    refine a_aload_n (i := 2) C dL_law_2014 rfl rfl ?_
    refine a_aload_n (i := 0) C dL_law_2015 rfl rfl ?_
    refine a_iload (i := 4) C dL_law_2016 rfl ?_
    refine a_iconst (v := 1) C dL_law_2018 (by decide) ?_
    refine a_iadd C dL_law_2019 ?_
    refine a_top (nI (i + 1)) (nI_add i 1) ?_
    refine a_scrGet C hS dL_law_2020 (by omega) (by omega) ?_
    refine a_aload_n (i := 0) C dL_law_2021 rfl rfl ?_
    refine a_iload (i := 4) C dL_law_2022 rfl ?_
    refine a_iconst (v := 2) C dL_law_2024 (by decide) ?_
    refine a_iadd C dL_law_2025 ?_
    refine a_top (nI (i + 2)) (nI_add i 2) ?_
    refine a_scrGet C hS dL_law_2026 (by omega) (by omega) ?_
    refine a_hp xCM ?_
    refine a_callV C dL_law_2027 cv_X7_ageing tb1253 (m_X7_ageing hflags hI) rfl rfl xM_0 rfl (Nat.le_of_ble_eq_true rfl) ⟨Nat.le_of_ble_eq_true rfl, Nat.le_of_ble_eq_true rfl⟩ ⟨(bud3 (c := 2) hq hk (by decide)).2, (bud4 (c := 12) hq hns (by decide)).2⟩ (fun _ h => h.elim) xav_no (fun _ _ h => h.elim) (fun r2 hp2 hq2 => ?_)
    obtain ⟨rfl, rfl⟩ := hq2
    refine a_loc [(0, .ref 908), (1, .ref 0), (2, .ref 200), (3, .ref 230), (4, .int (nI i)), (5, .int (((oRd (xin (xs (i + 1)) nc ∧ (0 ≤ (xs (i + 2)) ∧ (xs (i + 2)) ≤ 4)) (xsum (xage n f (xs (i + 1)) (xs (i + 2))) ni) n f g)).2.1 0))] (xsub_cons rfl (xsub_cons rfl (xsub_cons rfl (xsub_cons rfl (xsub_cons rfl (xsub_cons rfl (xsub_nil))))))) ?_
    exact l_tail hflags C (p0 := 2030) dL_law_2030 dL_law_2032 dL_law_2033 dL_law_2036 dL_law_2038 dL_law_2043 dL_law_2045 dL_law_2048 dL_law_2049 dL_law_2050 dL_law_2051 dL_law_2053 dL_law_2054 dL_law_2055 dL_law_2060 (by decide) (bud3 (c := 2) hq hk (by decide)).2 (bud4 (c := 12) hq hns (by decide)).2 (fun _ => e1) (a_hp xCM.symm (next o2 _ _ _ _ _ _ _ jc2 jr2 _ _ (hS9.1 hc) (bud3 (c := 2) hq hk (by decide)).1 (bud4 (c := 12) hq hns (by decide)).1))
  · obtain ⟨rfl, o2, jc2, jr2, -, hF⟩ := hq1
    obtain rfl := hF hc
    refine a_istore (i := 5) C dL_law_2012 (by decide) ?_
    refine a_aload_n (i := 2) C dL_law_2014 rfl rfl ?_
    refine a_aload_n (i := 0) C dL_law_2015 rfl rfl ?_
    refine a_iload (i := 4) C dL_law_2016 rfl ?_
    refine a_iconst (v := 1) C dL_law_2018 (by decide) ?_
    refine a_iadd C dL_law_2019 ?_
    refine a_top (nI (i + 1)) (nI_add i 1) ?_
    refine a_scrGet C hS dL_law_2020 (by omega) (by omega) ?_
    refine a_aload_n (i := 0) C dL_law_2021 rfl rfl ?_
    refine a_iload (i := 4) C dL_law_2022 rfl ?_
    refine a_iconst (v := 2) C dL_law_2024 (by decide) ?_
    refine a_iadd C dL_law_2025 ?_
    refine a_top (nI (i + 2)) (nI_add i 2) ?_
    refine a_scrGet C hS dL_law_2026 (by omega) (by omega) ?_
    refine a_hp xCM ?_
    refine a_callV C dL_law_2027 cv_X7_ageing tb1253 (m_X7_ageing hflags hI) rfl rfl xM_0 rfl (Nat.le_of_ble_eq_true rfl) ⟨Nat.le_of_ble_eq_true rfl, Nat.le_of_ble_eq_true rfl⟩ ⟨(bud3 (c := 2) hq hk (by decide)).2, (bud4 (c := 12) hq hns (by decide)).2⟩ (fun _ h => h.elim) xav_no (fun _ _ h => h.elim) (fun r2 hp2 hq2 => ?_)
    obtain ⟨rfl, rfl⟩ := hq2
    refine a_loc [(0, .ref 908), (1, .ref 0), (2, .ref 200), (3, .ref 230), (4, .int (nI i)), (5, .int (((oRd (xin (xs (i + 1)) nc ∧ (0 ≤ (xs (i + 2)) ∧ (xs (i + 2)) ≤ 4)) (xsum (xage n f (xs (i + 1)) (xs (i + 2))) ni) n f g)).2.1 0))] (xsub_cons rfl (xsub_cons rfl (xsub_cons rfl (xsub_cons rfl (xsub_cons rfl (xsub_cons rfl (xsub_nil))))))) ?_
    obtain ⟨eF, eG, e1, hJ2⟩ := hS9.2 hc
    refine l_tail hflags C (p0 := 2030) dL_law_2030 dL_law_2032 dL_law_2033 dL_law_2036 dL_law_2038 dL_law_2043 dL_law_2045 dL_law_2048 dL_law_2049 dL_law_2050 dL_law_2051 dL_law_2053 dL_law_2054 dL_law_2055 dL_law_2060 (by decide) (bud3 (c := 2) hq hk (by decide)).2 (bud4 (c := 12) hq hns (by decide)).2 (fun z => absurd z hc) ?_
    refine a_hp (show _ = xC (xM (xOut o2) ((oRd (xin (xs (i + 1)) nc ∧ (0 ≤ (xs (i + 2)) ∧ (xs (i + 2)) ≤ 4)) (xsum (xage n f (xs (i + 1)) (xs (i + 2))) ni) n f g)).2.1 f g) nc ni np nl (((oRd (xin (xs (i + 1)) nc ∧ (0 ≤ (xs (i + 2)) ∧ (xs (i + 2)) ≤ 4)) (xsum (xage n f (xs (i + 1)) (xs (i + 2))) ni) n f g)).2.1 1) f g jc2 jr2 by rw [eF, eG, e1, xCM]) ?_
    exact next o2 _ _ _ _ _ _ _ jc2 jr2 _ _ hJ2 (bud3 (c := 2) hq hk (by decide)).1 (bud4 (c := 12) hq hns (by decide)).1
set_option maxRecDepth 100000 in
set_option maxHeartbeats 4000000 in
theorem lc_oldest {E : xEnv} {l : Launch} {N0 : Nat} {D : va_G} {dT : Nat → ClassId} {ret : Option FieldType} {tab : List ExceptionTableEntry} (hflags : l.stackTraces = false) (C : aC E l N0 D dT cL_law "ReceivablesBookLaw" 7 ret tab room_1 nwLaw) (hN : xNcE E) {Ln i q9 : Nat} {xs : Nat → Int32} (hS : xScr Ln xs E) (hLn : Ln ≤ 2048) (hi : i + 4 ≤ Ln) (hq : q9 < 512) {o9 : Int64} {n : Nat → Int32} {f : Nat → Nat → Int32} {g : Nat → Nat → Int64} {nc ni np nl : Nat} {jc : Nat → Nat → Int32} {jr : Nat → Int64} {k ns : Nat} (hJ : JI n f g nc ni np nl q9) (hk : k ≤ 34 + 8 * q9 + 2 * lGen nl) (hns : ns ≤ 33300 + 100 * q9 + 4 * lCap nl) (next : ∀ (o : Int64) (n : Nat → Int32) (f : Nat → Nat → Int32) (g : Nat → Nat → Int64) (nc ni np nl : Nat) (jc : Nat → Nat → Int32) (jr : Nat → Int64) (k ns : Nat), JI n f g nc ni np nl (q9 + 1) → k ≤ 34 + 8 * (q9 + 1) + 2 * lGen nl → ns ≤ 33300 + 100 * (q9 + 1) + 4 * lCap nl → aW E k ns (xC (xM (xOut o) n f g) nc ni np nl (n 1) f g jc jr) 2412 [(0, .ref 908), (1, .ref 0), (2, .ref 200), (3, .ref 230), (4, .int (nI i))] []) : aW E k ns (xC (xM (xOut o9) n f g) nc ni np nl (n 1) f g jc jr) 2063 [(0, .ref 908), (1, .ref 0), (2, .ref 200), (3, .ref 230), (4, .int (nI i))] [] := by
  have hnl := JI_nl hJ (by omega)
  obtain ⟨hI, ⟨t9, ht, ht2, hG⟩, hLl⟩ := id hJ
  obtain ⟨-, -, -, -, hc6, hi24, hp24, hl16⟩ := id hI
  have hB : nc ≤ 6 ∧ ni ≤ 24 ∧ np ≤ 24 ∧ nl ≤ 16000 := ⟨hc6, hi24, hp24, hl16⟩
  have hOe := hG.1.1
  have hS9 : sP n f g nc ni np nl q9 (nc) (ni) (np) (nl) ((oRd (xin (xs (i + 1)) nc) (xold f (xs (i + 1)) ni) n f g)) := (sP_rd hJ)
  refine a_aload_n (i := 1) C dL_law_2063 rfl rfl ?_
  refine a_aload_n (i := 0) C dL_law_2064 rfl rfl ?_
  refine a_iload (i := 4) C dL_law_2065 rfl ?_
  refine a_iconst (v := 1) C dL_law_2067 (by decide) ?_
  refine a_iadd C dL_law_2068 ?_
  refine a_top (nI (i + 1)) (nI_add i 1) ?_
  refine a_scrGet C hS dL_law_2069 (by omega) (by omega) ?_
  refine a_aload_n (i := 3) C dL_law_2070 rfl rfl ?_
  refine a_callSN (na := 3) C hN dL_law_2071 ⟨tb884, tb46, tb885, ⟨by decide, by decide, by decide +kernel⟩⟩ tb883 (w_oldest hflags (o9 := o9) hB hOe) rfl rfl (Nat.le_of_ble_eq_true rfl) ⟨Nat.le_of_ble_eq_true rfl, Nat.le_of_ble_eq_true rfl⟩ ⟨(bud3 (c := 1) hq hk (by decide)).2, (bud4 (c := 6) hq hns (by decide)).2⟩ (fun _ h => h.elim) xav_no (fun r1 hp1 hq1 => ?_)
  by_cases hc : ((oRd (xin (xs (i + 1)) nc) (xold f (xs (i + 1)) ni) n f g)).2.1 0 = 0
  · obtain ⟨rfl, o2, jc2, jr2, hA, -⟩ := hq1
    obtain ⟨e1, rfl⟩ := hA hc
    refine a_istore (i := 5) C dL_law_2074 (by decide) ?_
    refine a_aload_n (i := 2) C dL_law_2076 rfl rfl ?_
    refine a_aload_n (i := 0) C dL_law_2077 rfl rfl ?_
    refine a_iload (i := 4) C dL_law_2078 rfl ?_
    refine a_iconst (v := 1) C dL_law_2080 (by decide) ?_
    refine a_iadd C dL_law_2081 ?_
    refine a_top (nI (i + 1)) (nI_add i 1) ?_
    refine a_scrGet C hS dL_law_2082 (by omega) (by omega) ?_
    refine a_hp xCM ?_
    refine a_callV C dL_law_2083 cv_X7_oldest tb1257 (m_X7_oldest hflags hI) rfl rfl xM_0 rfl (Nat.le_of_ble_eq_true rfl) ⟨Nat.le_of_ble_eq_true rfl, Nat.le_of_ble_eq_true rfl⟩ ⟨(bud3 (c := 1) hq hk (by decide)).2, (bud4 (c := 6) hq hns (by decide)).2⟩ (fun _ h => h.elim) xav_no (fun _ _ h => h.elim) (fun r2 hp2 hq2 => ?_)
    obtain ⟨rfl, rfl⟩ := hq2
    refine a_loc [(0, .ref 908), (1, .ref 0), (2, .ref 200), (3, .ref 230), (4, .int (nI i)), (5, .int (((oRd (xin (xs (i + 1)) nc) (xold f (xs (i + 1)) ni) n f g)).2.1 0))] (xsub_cons rfl (xsub_cons rfl (xsub_cons rfl (xsub_cons rfl (xsub_cons rfl (xsub_cons rfl (xsub_nil))))))) ?_
    exact l_tail hflags C (p0 := 2086) dL_law_2086 dL_law_2088 dL_law_2089 dL_law_2092 dL_law_2094 dL_law_2099 dL_law_2101 dL_law_2104 dL_law_2105 dL_law_2106 dL_law_2107 dL_law_2109 dL_law_2110 dL_law_2111 dL_law_2116 (by decide) (bud3 (c := 1) hq hk (by decide)).2 (bud4 (c := 6) hq hns (by decide)).2 (fun _ => e1) (a_hp xCM.symm (next o2 _ _ _ _ _ _ _ jc2 jr2 _ _ (hS9.1 hc) (bud3 (c := 1) hq hk (by decide)).1 (bud4 (c := 6) hq hns (by decide)).1))
  · obtain ⟨rfl, o2, jc2, jr2, -, hF⟩ := hq1
    obtain rfl := hF hc
    refine a_istore (i := 5) C dL_law_2074 (by decide) ?_
    refine a_aload_n (i := 2) C dL_law_2076 rfl rfl ?_
    refine a_aload_n (i := 0) C dL_law_2077 rfl rfl ?_
    refine a_iload (i := 4) C dL_law_2078 rfl ?_
    refine a_iconst (v := 1) C dL_law_2080 (by decide) ?_
    refine a_iadd C dL_law_2081 ?_
    refine a_top (nI (i + 1)) (nI_add i 1) ?_
    refine a_scrGet C hS dL_law_2082 (by omega) (by omega) ?_
    refine a_hp xCM ?_
    refine a_callV C dL_law_2083 cv_X7_oldest tb1257 (m_X7_oldest hflags hI) rfl rfl xM_0 rfl (Nat.le_of_ble_eq_true rfl) ⟨Nat.le_of_ble_eq_true rfl, Nat.le_of_ble_eq_true rfl⟩ ⟨(bud3 (c := 1) hq hk (by decide)).2, (bud4 (c := 6) hq hns (by decide)).2⟩ (fun _ h => h.elim) xav_no (fun _ _ h => h.elim) (fun r2 hp2 hq2 => ?_)
    obtain ⟨rfl, rfl⟩ := hq2
    refine a_loc [(0, .ref 908), (1, .ref 0), (2, .ref 200), (3, .ref 230), (4, .int (nI i)), (5, .int (((oRd (xin (xs (i + 1)) nc) (xold f (xs (i + 1)) ni) n f g)).2.1 0))] (xsub_cons rfl (xsub_cons rfl (xsub_cons rfl (xsub_cons rfl (xsub_cons rfl (xsub_cons rfl (xsub_nil))))))) ?_
    obtain ⟨eF, eG, e1, hJ2⟩ := hS9.2 hc
    refine l_tail hflags C (p0 := 2086) dL_law_2086 dL_law_2088 dL_law_2089 dL_law_2092 dL_law_2094 dL_law_2099 dL_law_2101 dL_law_2104 dL_law_2105 dL_law_2106 dL_law_2107 dL_law_2109 dL_law_2110 dL_law_2111 dL_law_2116 (by decide) (bud3 (c := 1) hq hk (by decide)).2 (bud4 (c := 6) hq hns (by decide)).2 (fun z => absurd z hc) ?_
    refine a_hp (show _ = xC (xM (xOut o2) ((oRd (xin (xs (i + 1)) nc) (xold f (xs (i + 1)) ni) n f g)).2.1 f g) nc ni np nl (((oRd (xin (xs (i + 1)) nc) (xold f (xs (i + 1)) ni) n f g)).2.1 1) f g jc2 jr2 by rw [eF, eG, e1, xCM]) ?_
    exact next o2 _ _ _ _ _ _ _ jc2 jr2 _ _ hJ2 (bud3 (c := 1) hq hk (by decide)).1 (bud4 (c := 6) hq hns (by decide)).1
set_option maxRecDepth 100000 in
set_option maxHeartbeats 4000000 in
theorem lc_levelOf {E : xEnv} {l : Launch} {N0 : Nat} {D : va_G} {dT : Nat → ClassId} {ret : Option FieldType} {tab : List ExceptionTableEntry} (hflags : l.stackTraces = false) (C : aC E l N0 D dT cL_law "ReceivablesBookLaw" 7 ret tab room_1 nwLaw) (hN : xNcE E) {Ln i q9 : Nat} {xs : Nat → Int32} (hS : xScr Ln xs E) (hLn : Ln ≤ 2048) (hi : i + 4 ≤ Ln) (hq : q9 < 512) {o9 : Int64} {n : Nat → Int32} {f : Nat → Nat → Int32} {g : Nat → Nat → Int64} {nc ni np nl : Nat} {jc : Nat → Nat → Int32} {jr : Nat → Int64} {k ns : Nat} (hJ : JI n f g nc ni np nl q9) (hk : k ≤ 34 + 8 * q9 + 2 * lGen nl) (hns : ns ≤ 33300 + 100 * q9 + 4 * lCap nl) (next : ∀ (o : Int64) (n : Nat → Int32) (f : Nat → Nat → Int32) (g : Nat → Nat → Int64) (nc ni np nl : Nat) (jc : Nat → Nat → Int32) (jr : Nat → Int64) (k ns : Nat), JI n f g nc ni np nl (q9 + 1) → k ≤ 34 + 8 * (q9 + 1) + 2 * lGen nl → ns ≤ 33300 + 100 * (q9 + 1) + 4 * lCap nl → aW E k ns (xC (xM (xOut o) n f g) nc ni np nl (n 1) f g jc jr) 2412 [(0, .ref 908), (1, .ref 0), (2, .ref 200), (3, .ref 230), (4, .int (nI i))] []) : aW E k ns (xC (xM (xOut o9) n f g) nc ni np nl (n 1) f g jc jr) 2119 [(0, .ref 908), (1, .ref 0), (2, .ref 200), (3, .ref 230), (4, .int (nI i))] [] := by
  have hnl := JI_nl hJ (by omega)
  obtain ⟨hI, ⟨t9, ht, ht2, hG⟩, hLl⟩ := id hJ
  obtain ⟨-, -, -, -, hc6, hi24, hp24, hl16⟩ := id hI
  have hB : nc ≤ 6 ∧ ni ≤ 24 ∧ np ≤ 24 ∧ nl ≤ 16000 := ⟨hc6, hi24, hp24, hl16⟩
  have hS9 : sP n f g nc ni np nl q9 (nc) (ni) (np) (nl) ((oRd (xin (xs (i + 1)) ni) (f 17 (xs (i + 1)).toNatClampNeg) n f g)) := (sP_rd hJ)
  refine a_aload_n (i := 1) C dL_law_2119 rfl rfl ?_
  refine a_aload_n (i := 0) C dL_law_2120 rfl rfl ?_
  refine a_iload (i := 4) C dL_law_2121 rfl ?_
  refine a_iconst (v := 1) C dL_law_2123 (by decide) ?_
  refine a_iadd C dL_law_2124 ?_
  refine a_top (nI (i + 1)) (nI_add i 1) ?_
  refine a_scrGet C hS dL_law_2125 (by omega) (by omega) ?_
  refine a_aload_n (i := 3) C dL_law_2126 rfl rfl ?_
  refine a_callSN (na := 3) C hN dL_law_2127 ⟨tb891, tb46, tb892, ⟨by decide, by decide, by decide +kernel⟩⟩ tb890 (w_levelOf hflags (o9 := o9) hB ) rfl rfl (Nat.le_of_ble_eq_true rfl) ⟨Nat.le_of_ble_eq_true rfl, Nat.le_of_ble_eq_true rfl⟩ ⟨(bud3 (c := 1) hq hk (by decide)).2, (bud4 (c := 6) hq hns (by decide)).2⟩ (fun _ h => h.elim) xav_no (fun r1 hp1 hq1 => ?_)
  by_cases hc : ((oRd (xin (xs (i + 1)) ni) (f 17 (xs (i + 1)).toNatClampNeg) n f g)).2.1 0 = 0
  · obtain ⟨rfl, o2, jc2, jr2, hA, -⟩ := hq1
    obtain ⟨e1, rfl⟩ := hA hc
    refine a_istore (i := 5) C dL_law_2130 (by decide) ?_
    refine a_aload_n (i := 2) C dL_law_2132 rfl rfl ?_
    refine a_aload_n (i := 0) C dL_law_2133 rfl rfl ?_
    refine a_iload (i := 4) C dL_law_2134 rfl ?_
    refine a_iconst (v := 1) C dL_law_2136 (by decide) ?_
    refine a_iadd C dL_law_2137 ?_
    refine a_top (nI (i + 1)) (nI_add i 1) ?_
    refine a_scrGet C hS dL_law_2138 (by omega) (by omega) ?_
    refine a_hp xCM ?_
    refine a_callV C dL_law_2139 cv_X7_levelOf tb1265 (m_X7_levelOf hflags hI) rfl rfl xM_0 rfl (Nat.le_of_ble_eq_true rfl) ⟨Nat.le_of_ble_eq_true rfl, Nat.le_of_ble_eq_true rfl⟩ ⟨(bud3 (c := 1) hq hk (by decide)).2, (bud4 (c := 6) hq hns (by decide)).2⟩ (fun _ h => h.elim) xav_no (fun _ _ h => h.elim) (fun r2 hp2 hq2 => ?_)
    obtain ⟨rfl, rfl⟩ := hq2
    refine a_loc [(0, .ref 908), (1, .ref 0), (2, .ref 200), (3, .ref 230), (4, .int (nI i)), (5, .int (((oRd (xin (xs (i + 1)) ni) (f 17 (xs (i + 1)).toNatClampNeg) n f g)).2.1 0))] (xsub_cons rfl (xsub_cons rfl (xsub_cons rfl (xsub_cons rfl (xsub_cons rfl (xsub_cons rfl (xsub_nil))))))) ?_
    exact l_tail hflags C (p0 := 2142) dL_law_2142 dL_law_2144 dL_law_2145 dL_law_2148 dL_law_2150 dL_law_2155 dL_law_2157 dL_law_2160 dL_law_2161 dL_law_2162 dL_law_2163 dL_law_2165 dL_law_2166 dL_law_2167 dL_law_2172 (by decide) (bud3 (c := 1) hq hk (by decide)).2 (bud4 (c := 6) hq hns (by decide)).2 (fun _ => e1) (a_hp xCM.symm (next o2 _ _ _ _ _ _ _ jc2 jr2 _ _ (hS9.1 hc) (bud3 (c := 1) hq hk (by decide)).1 (bud4 (c := 6) hq hns (by decide)).1))
  · obtain ⟨rfl, o2, jc2, jr2, -, hF⟩ := hq1
    obtain rfl := hF hc
    refine a_istore (i := 5) C dL_law_2130 (by decide) ?_
    refine a_aload_n (i := 2) C dL_law_2132 rfl rfl ?_
    refine a_aload_n (i := 0) C dL_law_2133 rfl rfl ?_
    refine a_iload (i := 4) C dL_law_2134 rfl ?_
    refine a_iconst (v := 1) C dL_law_2136 (by decide) ?_
    refine a_iadd C dL_law_2137 ?_
    refine a_top (nI (i + 1)) (nI_add i 1) ?_
    refine a_scrGet C hS dL_law_2138 (by omega) (by omega) ?_
    refine a_hp xCM ?_
    refine a_callV C dL_law_2139 cv_X7_levelOf tb1265 (m_X7_levelOf hflags hI) rfl rfl xM_0 rfl (Nat.le_of_ble_eq_true rfl) ⟨Nat.le_of_ble_eq_true rfl, Nat.le_of_ble_eq_true rfl⟩ ⟨(bud3 (c := 1) hq hk (by decide)).2, (bud4 (c := 6) hq hns (by decide)).2⟩ (fun _ h => h.elim) xav_no (fun _ _ h => h.elim) (fun r2 hp2 hq2 => ?_)
    obtain ⟨rfl, rfl⟩ := hq2
    refine a_loc [(0, .ref 908), (1, .ref 0), (2, .ref 200), (3, .ref 230), (4, .int (nI i)), (5, .int (((oRd (xin (xs (i + 1)) ni) (f 17 (xs (i + 1)).toNatClampNeg) n f g)).2.1 0))] (xsub_cons rfl (xsub_cons rfl (xsub_cons rfl (xsub_cons rfl (xsub_cons rfl (xsub_cons rfl (xsub_nil))))))) ?_
    obtain ⟨eF, eG, e1, hJ2⟩ := hS9.2 hc
    refine l_tail hflags C (p0 := 2142) dL_law_2142 dL_law_2144 dL_law_2145 dL_law_2148 dL_law_2150 dL_law_2155 dL_law_2157 dL_law_2160 dL_law_2161 dL_law_2162 dL_law_2163 dL_law_2165 dL_law_2166 dL_law_2167 dL_law_2172 (by decide) (bud3 (c := 1) hq hk (by decide)).2 (bud4 (c := 6) hq hns (by decide)).2 (fun z => absurd z hc) ?_
    refine a_hp (show _ = xC (xM (xOut o2) ((oRd (xin (xs (i + 1)) ni) (f 17 (xs (i + 1)).toNatClampNeg) n f g)).2.1 f g) nc ni np nl (((oRd (xin (xs (i + 1)) ni) (f 17 (xs (i + 1)).toNatClampNeg) n f g)).2.1 1) f g jc2 jr2 by rw [eF, eG, e1, xCM]) ?_
    exact next o2 _ _ _ _ _ _ _ jc2 jr2 _ _ hJ2 (bud3 (c := 1) hq hk (by decide)).1 (bud4 (c := 6) hq hns (by decide)).1
set_option maxRecDepth 100000 in
set_option maxHeartbeats 4000000 in
theorem lc_daysToReminder {E : xEnv} {l : Launch} {N0 : Nat} {D : va_G} {dT : Nat → ClassId} {ret : Option FieldType} {tab : List ExceptionTableEntry} (hflags : l.stackTraces = false) (C : aC E l N0 D dT cL_law "ReceivablesBookLaw" 7 ret tab room_1 nwLaw) (hN : xNcE E) {Ln i q9 : Nat} {xs : Nat → Int32} (hS : xScr Ln xs E) (hLn : Ln ≤ 2048) (hi : i + 4 ≤ Ln) (hq : q9 < 512) {o9 : Int64} {n : Nat → Int32} {f : Nat → Nat → Int32} {g : Nat → Nat → Int64} {nc ni np nl : Nat} {jc : Nat → Nat → Int32} {jr : Nat → Int64} {k ns : Nat} (hJ : JI n f g nc ni np nl q9) (hk : k ≤ 34 + 8 * q9 + 2 * lGen nl) (hns : ns ≤ 33300 + 100 * q9 + 4 * lCap nl) (next : ∀ (o : Int64) (n : Nat → Int32) (f : Nat → Nat → Int32) (g : Nat → Nat → Int64) (nc ni np nl : Nat) (jc : Nat → Nat → Int32) (jr : Nat → Int64) (k ns : Nat), JI n f g nc ni np nl (q9 + 1) → k ≤ 34 + 8 * (q9 + 1) + 2 * lGen nl → ns ≤ 33300 + 100 * (q9 + 1) + 4 * lCap nl → aW E k ns (xC (xM (xOut o) n f g) nc ni np nl (n 1) f g jc jr) 2412 [(0, .ref 908), (1, .ref 0), (2, .ref 200), (3, .ref 230), (4, .int (nI i))] []) : aW E k ns (xC (xM (xOut o9) n f g) nc ni np nl (n 1) f g jc jr) 2175 [(0, .ref 908), (1, .ref 0), (2, .ref 200), (3, .ref 230), (4, .int (nI i))] [] := by
  have hnl := JI_nl hJ (by omega)
  obtain ⟨hI, ⟨t9, ht, ht2, hG⟩, hLl⟩ := id hJ
  obtain ⟨-, -, -, -, hc6, hi24, hp24, hl16⟩ := id hI
  have hB : nc ≤ 6 ∧ ni ≤ 24 ∧ np ≤ 24 ∧ nl ≤ 16000 := ⟨hc6, hi24, hp24, hl16⟩
  have hO6 : ∀ i, i < ni → ∃ k, k < 6 ∧ f 10 i = nI k := fun i hi => by
    obtain ⟨k, k1, k2⟩ := hG.1.1 i hi
    exact ⟨k, by omega, k2⟩
  have hOw := xow_lt hG.1.1 hc6
  have hS9 : sP n f g nc ni np nl q9 (nc) (ni) (np) (nl) ((oRd (xin (xs (i + 1)) ni) (xdr n f (xs (i + 1)).toNatClampNeg) n f g)) := (sP_rd hJ)
  refine a_aload_n (i := 1) C dL_law_2175 rfl rfl ?_
  refine a_aload_n (i := 0) C dL_law_2176 rfl rfl ?_
  refine a_iload (i := 4) C dL_law_2177 rfl ?_
  refine a_iconst (v := 1) C dL_law_2179 (by decide) ?_
  refine a_iadd C dL_law_2180 ?_
  refine a_top (nI (i + 1)) (nI_add i 1) ?_
  refine a_scrGet C hS dL_law_2181 (by omega) (by omega) ?_
  refine a_aload_n (i := 3) C dL_law_2182 rfl rfl ?_
  refine a_callSN (na := 3) C hN dL_law_2183 ⟨tb898, tb46, tb899, ⟨by decide, by decide, by decide +kernel⟩⟩ tb897 (w_daysToReminder hflags (o9 := o9) hB hOw) rfl rfl (Nat.le_of_ble_eq_true rfl) ⟨Nat.le_of_ble_eq_true rfl, Nat.le_of_ble_eq_true rfl⟩ ⟨(bud3 (c := 1) hq hk (by decide)).2, (bud4 (c := 6) hq hns (by decide)).2⟩ (fun _ h => h.elim) xav_no (fun r1 hp1 hq1 => ?_)
  by_cases hc : ((oRd (xin (xs (i + 1)) ni) (xdr n f (xs (i + 1)).toNatClampNeg) n f g)).2.1 0 = 0
  · obtain ⟨rfl, o2, jc2, jr2, hA, -⟩ := hq1
    obtain ⟨e1, rfl⟩ := hA hc
    refine a_istore (i := 5) C dL_law_2186 (by decide) ?_
    refine a_aload_n (i := 2) C dL_law_2188 rfl rfl ?_
    refine a_aload_n (i := 0) C dL_law_2189 rfl rfl ?_
    refine a_iload (i := 4) C dL_law_2190 rfl ?_
    refine a_iconst (v := 1) C dL_law_2192 (by decide) ?_
    refine a_iadd C dL_law_2193 ?_
    refine a_top (nI (i + 1)) (nI_add i 1) ?_
    refine a_scrGet C hS dL_law_2194 (by omega) (by omega) ?_
    refine a_hp xCM ?_
    refine a_callV C dL_law_2195 cv_X7_daysToReminder tb1269 (m_X7_daysToReminder hflags hI hO6) rfl rfl xM_0 rfl (Nat.le_of_ble_eq_true rfl) ⟨Nat.le_of_ble_eq_true rfl, Nat.le_of_ble_eq_true rfl⟩ ⟨(bud3 (c := 1) hq hk (by decide)).2, (bud4 (c := 6) hq hns (by decide)).2⟩ (fun _ h => h.elim) xav_no (fun _ _ h => h.elim) (fun r2 hp2 hq2 => ?_)
    obtain ⟨rfl, rfl⟩ := hq2
    refine a_loc [(0, .ref 908), (1, .ref 0), (2, .ref 200), (3, .ref 230), (4, .int (nI i)), (5, .int (((oRd (xin (xs (i + 1)) ni) (xdr n f (xs (i + 1)).toNatClampNeg) n f g)).2.1 0))] (xsub_cons rfl (xsub_cons rfl (xsub_cons rfl (xsub_cons rfl (xsub_cons rfl (xsub_cons rfl (xsub_nil))))))) ?_
    exact l_tail hflags C (p0 := 2198) dL_law_2198 dL_law_2200 dL_law_2201 dL_law_2204 dL_law_2206 dL_law_2211 dL_law_2213 dL_law_2216 dL_law_2217 dL_law_2218 dL_law_2219 dL_law_2221 dL_law_2222 dL_law_2223 dL_law_2228 (by decide) (bud3 (c := 1) hq hk (by decide)).2 (bud4 (c := 6) hq hns (by decide)).2 (fun _ => e1) (a_hp xCM.symm (next o2 _ _ _ _ _ _ _ jc2 jr2 _ _ (hS9.1 hc) (bud3 (c := 1) hq hk (by decide)).1 (bud4 (c := 6) hq hns (by decide)).1))
  · obtain ⟨rfl, o2, jc2, jr2, -, hF⟩ := hq1
    obtain rfl := hF hc
    refine a_istore (i := 5) C dL_law_2186 (by decide) ?_
    refine a_aload_n (i := 2) C dL_law_2188 rfl rfl ?_
    refine a_aload_n (i := 0) C dL_law_2189 rfl rfl ?_
    refine a_iload (i := 4) C dL_law_2190 rfl ?_
    refine a_iconst (v := 1) C dL_law_2192 (by decide) ?_
    refine a_iadd C dL_law_2193 ?_
    refine a_top (nI (i + 1)) (nI_add i 1) ?_
    refine a_scrGet C hS dL_law_2194 (by omega) (by omega) ?_
    refine a_hp xCM ?_
    refine a_callV C dL_law_2195 cv_X7_daysToReminder tb1269 (m_X7_daysToReminder hflags hI hO6) rfl rfl xM_0 rfl (Nat.le_of_ble_eq_true rfl) ⟨Nat.le_of_ble_eq_true rfl, Nat.le_of_ble_eq_true rfl⟩ ⟨(bud3 (c := 1) hq hk (by decide)).2, (bud4 (c := 6) hq hns (by decide)).2⟩ (fun _ h => h.elim) xav_no (fun _ _ h => h.elim) (fun r2 hp2 hq2 => ?_)
    obtain ⟨rfl, rfl⟩ := hq2
    refine a_loc [(0, .ref 908), (1, .ref 0), (2, .ref 200), (3, .ref 230), (4, .int (nI i)), (5, .int (((oRd (xin (xs (i + 1)) ni) (xdr n f (xs (i + 1)).toNatClampNeg) n f g)).2.1 0))] (xsub_cons rfl (xsub_cons rfl (xsub_cons rfl (xsub_cons rfl (xsub_cons rfl (xsub_cons rfl (xsub_nil))))))) ?_
    obtain ⟨eF, eG, e1, hJ2⟩ := hS9.2 hc
    refine l_tail hflags C (p0 := 2198) dL_law_2198 dL_law_2200 dL_law_2201 dL_law_2204 dL_law_2206 dL_law_2211 dL_law_2213 dL_law_2216 dL_law_2217 dL_law_2218 dL_law_2219 dL_law_2221 dL_law_2222 dL_law_2223 dL_law_2228 (by decide) (bud3 (c := 1) hq hk (by decide)).2 (bud4 (c := 6) hq hns (by decide)).2 (fun z => absurd z hc) ?_
    refine a_hp (show _ = xC (xM (xOut o2) ((oRd (xin (xs (i + 1)) ni) (xdr n f (xs (i + 1)).toNatClampNeg) n f g)).2.1 f g) nc ni np nl (((oRd (xin (xs (i + 1)) ni) (xdr n f (xs (i + 1)).toNatClampNeg) n f g)).2.1 1) f g jc2 jr2 by rw [eF, eG, e1, xCM]) ?_
    exact next o2 _ _ _ _ _ _ _ jc2 jr2 _ _ hJ2 (bud3 (c := 1) hq hk (by decide)).1 (bud4 (c := 6) hq hns (by decide)).1
set_option maxRecDepth 100000 in
set_option maxHeartbeats 4000000 in
theorem lc_invoicesAt {E : xEnv} {l : Launch} {N0 : Nat} {D : va_G} {dT : Nat → ClassId} {ret : Option FieldType} {tab : List ExceptionTableEntry} (hflags : l.stackTraces = false) (C : aC E l N0 D dT cL_law "ReceivablesBookLaw" 7 ret tab room_1 nwLaw) (hN : xNcE E) {Ln i q9 : Nat} {xs : Nat → Int32} (hS : xScr Ln xs E) (hLn : Ln ≤ 2048) (hi : i + 4 ≤ Ln) (hq : q9 < 512) {o9 : Int64} {n : Nat → Int32} {f : Nat → Nat → Int32} {g : Nat → Nat → Int64} {nc ni np nl : Nat} {jc : Nat → Nat → Int32} {jr : Nat → Int64} {k ns : Nat} (hJ : JI n f g nc ni np nl q9) (hk : k ≤ 34 + 8 * q9 + 2 * lGen nl) (hns : ns ≤ 33300 + 100 * q9 + 4 * lCap nl) (next : ∀ (o : Int64) (n : Nat → Int32) (f : Nat → Nat → Int32) (g : Nat → Nat → Int64) (nc ni np nl : Nat) (jc : Nat → Nat → Int32) (jr : Nat → Int64) (k ns : Nat), JI n f g nc ni np nl (q9 + 1) → k ≤ 34 + 8 * (q9 + 1) + 2 * lGen nl → ns ≤ 33300 + 100 * (q9 + 1) + 4 * lCap nl → aW E k ns (xC (xM (xOut o) n f g) nc ni np nl (n 1) f g jc jr) 2412 [(0, .ref 908), (1, .ref 0), (2, .ref 200), (3, .ref 230), (4, .int (nI i))] []) : aW E k ns (xC (xM (xOut o9) n f g) nc ni np nl (n 1) f g jc jr) 2231 [(0, .ref 908), (1, .ref 0), (2, .ref 200), (3, .ref 230), (4, .int (nI i))] [] := by
  have hnl := JI_nl hJ (by omega)
  obtain ⟨hI, ⟨t9, ht, ht2, hG⟩, hLl⟩ := id hJ
  obtain ⟨-, -, -, -, hc6, hi24, hp24, hl16⟩ := id hI
  have hB : nc ≤ 6 ∧ ni ≤ 24 ∧ np ≤ 24 ∧ nl ≤ 16000 := ⟨hc6, hi24, hp24, hl16⟩
  have hS9 : sP n f g nc ni np nl q9 (nc) (ni) (np) (nl) ((oRd (0 ≤ (xs (i + 1)) ∧ (xs (i + 1)) ≤ 4) (xsum (xlev f (xs (i + 1))) ni) n f g)) := (sP_rd hJ)
  refine a_aload_n (i := 1) C dL_law_2231 rfl rfl ?_
  refine a_aload_n (i := 0) C dL_law_2232 rfl rfl ?_
  refine a_iload (i := 4) C dL_law_2233 rfl ?_
  refine a_iconst (v := 1) C dL_law_2235 (by decide) ?_
  refine a_iadd C dL_law_2236 ?_
  refine a_top (nI (i + 1)) (nI_add i 1) ?_
  refine a_scrGet C hS dL_law_2237 (by omega) (by omega) ?_
  refine a_aload_n (i := 3) C dL_law_2238 rfl rfl ?_
  refine a_callSN (na := 3) C hN dL_law_2239 ⟨tb910, tb46, tb911, ⟨by decide, by decide, by decide +kernel⟩⟩ tb909 (w_invoicesAt hflags (o9 := o9) hB ) rfl rfl (Nat.le_of_ble_eq_true rfl) ⟨Nat.le_of_ble_eq_true rfl, Nat.le_of_ble_eq_true rfl⟩ ⟨(bud3 (c := 1) hq hk (by decide)).2, (bud4 (c := 6) hq hns (by decide)).2⟩ (fun _ h => h.elim) xav_no (fun r1 hp1 hq1 => ?_)
  by_cases hc : ((oRd (0 ≤ (xs (i + 1)) ∧ (xs (i + 1)) ≤ 4) (xsum (xlev f (xs (i + 1))) ni) n f g)).2.1 0 = 0
  · obtain ⟨rfl, o2, jc2, jr2, hA, -⟩ := hq1
    obtain ⟨e1, rfl⟩ := hA hc
    refine a_istore (i := 5) C dL_law_2242 (by decide) ?_
    refine a_aload_n (i := 2) C dL_law_2244 rfl rfl ?_
    refine a_aload_n (i := 0) C dL_law_2245 rfl rfl ?_
    refine a_iload (i := 4) C dL_law_2246 rfl ?_
    refine a_iconst (v := 1) C dL_law_2248 (by decide) ?_
    refine a_iadd C dL_law_2249 ?_
    refine a_top (nI (i + 1)) (nI_add i 1) ?_
    refine a_scrGet C hS dL_law_2250 (by omega) (by omega) ?_
    refine a_hp xCM ?_
    refine a_callV C dL_law_2251 cv_X7_invoicesAt tb1273 (m_X7_invoicesAt hflags hI) rfl rfl xM_0 rfl (Nat.le_of_ble_eq_true rfl) ⟨Nat.le_of_ble_eq_true rfl, Nat.le_of_ble_eq_true rfl⟩ ⟨(bud3 (c := 1) hq hk (by decide)).2, (bud4 (c := 6) hq hns (by decide)).2⟩ (fun _ h => h.elim) xav_no (fun _ _ h => h.elim) (fun r2 hp2 hq2 => ?_)
    obtain ⟨rfl, rfl⟩ := hq2
    refine a_loc [(0, .ref 908), (1, .ref 0), (2, .ref 200), (3, .ref 230), (4, .int (nI i)), (5, .int (((oRd (0 ≤ (xs (i + 1)) ∧ (xs (i + 1)) ≤ 4) (xsum (xlev f (xs (i + 1))) ni) n f g)).2.1 0))] (xsub_cons rfl (xsub_cons rfl (xsub_cons rfl (xsub_cons rfl (xsub_cons rfl (xsub_cons rfl (xsub_nil))))))) ?_
    exact l_tail hflags C (p0 := 2254) dL_law_2254 dL_law_2256 dL_law_2257 dL_law_2260 dL_law_2262 dL_law_2267 dL_law_2269 dL_law_2272 dL_law_2273 dL_law_2274 dL_law_2275 dL_law_2277 dL_law_2278 dL_law_2279 dL_law_2284 (by decide) (bud3 (c := 1) hq hk (by decide)).2 (bud4 (c := 6) hq hns (by decide)).2 (fun _ => e1) (a_hp xCM.symm (next o2 _ _ _ _ _ _ _ jc2 jr2 _ _ (hS9.1 hc) (bud3 (c := 1) hq hk (by decide)).1 (bud4 (c := 6) hq hns (by decide)).1))
  · obtain ⟨rfl, o2, jc2, jr2, -, hF⟩ := hq1
    obtain rfl := hF hc
    refine a_istore (i := 5) C dL_law_2242 (by decide) ?_
    refine a_aload_n (i := 2) C dL_law_2244 rfl rfl ?_
    refine a_aload_n (i := 0) C dL_law_2245 rfl rfl ?_
    refine a_iload (i := 4) C dL_law_2246 rfl ?_
    refine a_iconst (v := 1) C dL_law_2248 (by decide) ?_
    refine a_iadd C dL_law_2249 ?_
    refine a_top (nI (i + 1)) (nI_add i 1) ?_
    refine a_scrGet C hS dL_law_2250 (by omega) (by omega) ?_
    refine a_hp xCM ?_
    refine a_callV C dL_law_2251 cv_X7_invoicesAt tb1273 (m_X7_invoicesAt hflags hI) rfl rfl xM_0 rfl (Nat.le_of_ble_eq_true rfl) ⟨Nat.le_of_ble_eq_true rfl, Nat.le_of_ble_eq_true rfl⟩ ⟨(bud3 (c := 1) hq hk (by decide)).2, (bud4 (c := 6) hq hns (by decide)).2⟩ (fun _ h => h.elim) xav_no (fun _ _ h => h.elim) (fun r2 hp2 hq2 => ?_)
    obtain ⟨rfl, rfl⟩ := hq2
    refine a_loc [(0, .ref 908), (1, .ref 0), (2, .ref 200), (3, .ref 230), (4, .int (nI i)), (5, .int (((oRd (0 ≤ (xs (i + 1)) ∧ (xs (i + 1)) ≤ 4) (xsum (xlev f (xs (i + 1))) ni) n f g)).2.1 0))] (xsub_cons rfl (xsub_cons rfl (xsub_cons rfl (xsub_cons rfl (xsub_cons rfl (xsub_cons rfl (xsub_nil))))))) ?_
    obtain ⟨eF, eG, e1, hJ2⟩ := hS9.2 hc
    refine l_tail hflags C (p0 := 2254) dL_law_2254 dL_law_2256 dL_law_2257 dL_law_2260 dL_law_2262 dL_law_2267 dL_law_2269 dL_law_2272 dL_law_2273 dL_law_2274 dL_law_2275 dL_law_2277 dL_law_2278 dL_law_2279 dL_law_2284 (by decide) (bud3 (c := 1) hq hk (by decide)).2 (bud4 (c := 6) hq hns (by decide)).2 (fun z => absurd z hc) ?_
    refine a_hp (show _ = xC (xM (xOut o2) ((oRd (0 ≤ (xs (i + 1)) ∧ (xs (i + 1)) ≤ 4) (xsum (xlev f (xs (i + 1))) ni) n f g)).2.1 f g) nc ni np nl (((oRd (0 ≤ (xs (i + 1)) ∧ (xs (i + 1)) ≤ 4) (xsum (xlev f (xs (i + 1))) ni) n f g)).2.1 1) f g jc2 jr2 by rw [eF, eG, e1, xCM]) ?_
    exact next o2 _ _ _ _ _ _ _ jc2 jr2 _ _ hJ2 (bud3 (c := 1) hq hk (by decide)).1 (bud4 (c := 6) hq hns (by decide)).1
set_option maxRecDepth 100000 in
set_option maxHeartbeats 4000000 in
theorem lc_ledgerLines {E : xEnv} {l : Launch} {N0 : Nat} {D : va_G} {dT : Nat → ClassId} {ret : Option FieldType} {tab : List ExceptionTableEntry} (hflags : l.stackTraces = false) (C : aC E l N0 D dT cL_law "ReceivablesBookLaw" 7 ret tab room_1 nwLaw) (hN : xNcE E) {Ln i q9 : Nat} {xs : Nat → Int32} (hS : xScr Ln xs E) (hLn : Ln ≤ 2048) (hi : i + 4 ≤ Ln) (hq : q9 < 512) {o9 : Int64} {n : Nat → Int32} {f : Nat → Nat → Int32} {g : Nat → Nat → Int64} {nc ni np nl : Nat} {jc : Nat → Nat → Int32} {jr : Nat → Int64} {k ns : Nat} (hJ : JI n f g nc ni np nl q9) (hk : k ≤ 34 + 8 * q9 + 2 * lGen nl) (hns : ns ≤ 33300 + 100 * q9 + 4 * lCap nl) (next : ∀ (o : Int64) (n : Nat → Int32) (f : Nat → Nat → Int32) (g : Nat → Nat → Int64) (nc ni np nl : Nat) (jc : Nat → Nat → Int32) (jr : Nat → Int64) (k ns : Nat), JI n f g nc ni np nl (q9 + 1) → k ≤ 34 + 8 * (q9 + 1) + 2 * lGen nl → ns ≤ 33300 + 100 * (q9 + 1) + 4 * lCap nl → aW E k ns (xC (xM (xOut o) n f g) nc ni np nl (n 1) f g jc jr) 2412 [(0, .ref 908), (1, .ref 0), (2, .ref 200), (3, .ref 230), (4, .int (nI i))] []) : aW E k ns (xC (xM (xOut o9) n f g) nc ni np nl (n 1) f g jc jr) 2287 [(0, .ref 908), (1, .ref 0), (2, .ref 200), (3, .ref 230), (4, .int (nI i))] [] := by
  have hnl := JI_nl hJ (by omega)
  obtain ⟨hI, ⟨t9, ht, ht2, hG⟩, hLl⟩ := id hJ
  obtain ⟨-, -, -, -, hc6, hi24, hp24, hl16⟩ := id hI
  have hB : nc ≤ 6 ∧ ni ≤ 24 ∧ np ≤ 24 ∧ nl ≤ 16000 := ⟨hc6, hi24, hp24, hl16⟩
  refine a_aload_n (i := 1) C dL_law_2287 rfl rfl ?_
  refine a_callV C dL_law_2288 cv_X6_ledgerLines tb178 (m_X6_ledgerLines hflags (h := xM (xOut o9) n f g) hB hI) rfl rfl xC_0 rfl (Nat.le_of_ble_eq_true rfl) ⟨Nat.le_of_ble_eq_true rfl, Nat.le_of_ble_eq_true rfl⟩ ⟨(bud3 (c := 0) hq hk (by decide)).2, (bud4 (c := 0) hq hns (by decide)).2⟩ (fun _ h => h.elim) xav_no (fun _ _ h => h.elim) (fun r1 hp1 hq1 => ?_)
  obtain ⟨-, rfl, jc2, jr2, rfl⟩ := hq1
  refine a_aload_n (i := 2) C dL_law_2291 rfl rfl ?_
  refine a_hp xCM ?_
  refine a_callV C dL_law_2292 cv_X7_ledgerLines tb1277 (m_X7_ledgerLines hflags) rfl rfl xM_0 rfl (Nat.le_of_ble_eq_true rfl) ⟨Nat.le_of_ble_eq_true rfl, Nat.le_of_ble_eq_true rfl⟩ ⟨(bud3 (c := 0) hq hk (by decide)).2, (bud4 (c := 0) hq hns (by decide)).2⟩ (fun _ h => h.elim) xav_no (fun _ _ h => h.elim) (fun r2 hp2 hq2 => ?_)
  obtain ⟨rfl, rfl⟩ := hq2
  refine a_icmp_eq (tgt := 2412) C dL_law_2295 (by decide) (fun _ => ?_) (fun z => absurd rfl z)
  refine a_hp xCM.symm ?_
  exact next o9 _ _ _ _ _ _ _ jc2 jr2 _ _ (JI_0 (w := 0) hJ) (bud3 (c := 0) hq hk (by decide)).1 (bud4 (c := 0) hq hns (by decide)).1
set_option maxRecDepth 100000 in
set_option maxHeartbeats 4000000 in
theorem lc_lineInvoice {E : xEnv} {l : Launch} {N0 : Nat} {D : va_G} {dT : Nat → ClassId} {ret : Option FieldType} {tab : List ExceptionTableEntry} (hflags : l.stackTraces = false) (C : aC E l N0 D dT cL_law "ReceivablesBookLaw" 7 ret tab room_1 nwLaw) (hN : xNcE E) {Ln i q9 : Nat} {xs : Nat → Int32} (hS : xScr Ln xs E) (hLn : Ln ≤ 2048) (hi : i + 4 ≤ Ln) (hq : q9 < 512) {o9 : Int64} {n : Nat → Int32} {f : Nat → Nat → Int32} {g : Nat → Nat → Int64} {nc ni np nl : Nat} {jc : Nat → Nat → Int32} {jr : Nat → Int64} {k ns : Nat} (hJ : JI n f g nc ni np nl q9) (hk : k ≤ 34 + 8 * q9 + 2 * lGen nl) (hns : ns ≤ 33300 + 100 * q9 + 4 * lCap nl) (next : ∀ (o : Int64) (n : Nat → Int32) (f : Nat → Nat → Int32) (g : Nat → Nat → Int64) (nc ni np nl : Nat) (jc : Nat → Nat → Int32) (jr : Nat → Int64) (k ns : Nat), JI n f g nc ni np nl (q9 + 1) → k ≤ 34 + 8 * (q9 + 1) + 2 * lGen nl → ns ≤ 33300 + 100 * (q9 + 1) + 4 * lCap nl → aW E k ns (xC (xM (xOut o) n f g) nc ni np nl (n 1) f g jc jr) 2412 [(0, .ref 908), (1, .ref 0), (2, .ref 200), (3, .ref 230), (4, .int (nI i))] []) : aW E k ns (xC (xM (xOut o9) n f g) nc ni np nl (n 1) f g jc jr) 2300 [(0, .ref 908), (1, .ref 0), (2, .ref 200), (3, .ref 230), (4, .int (nI i))] [] := by
  have hnl := JI_nl hJ (by omega)
  obtain ⟨hI, ⟨t9, ht, ht2, hG⟩, hLl⟩ := id hJ
  obtain ⟨-, -, -, -, hc6, hi24, hp24, hl16⟩ := id hI
  have hB : nc ≤ 6 ∧ ni ≤ 24 ∧ np ≤ 24 ∧ nl ≤ 16000 := ⟨hc6, hi24, hp24, hl16⟩
  have hS9 : sP n f g nc ni np nl q9 (nc) (ni) (np) (nl) ((oRd (xin (xs (i + 1)) nl) (f 23 (xs (i + 1)).toNatClampNeg) n f g)) := (sP_rd hJ)
  refine a_aload_n (i := 1) C dL_law_2300 rfl rfl ?_
  refine a_aload_n (i := 0) C dL_law_2301 rfl rfl ?_
  refine a_iload (i := 4) C dL_law_2302 rfl ?_
  refine a_iconst (v := 1) C dL_law_2304 (by decide) ?_
  refine a_iadd C dL_law_2305 ?_
  refine a_top (nI (i + 1)) (nI_add i 1) ?_
  refine a_scrGet C hS dL_law_2306 (by omega) (by omega) ?_
  refine a_aload_n (i := 3) C dL_law_2307 rfl rfl ?_
  refine a_callSN (na := 3) C hN dL_law_2308 ⟨tb917, tb46, tb918, ⟨by decide, by decide, by decide +kernel⟩⟩ tb916 (w_lineInvoice hflags (o9 := o9) hB ) rfl rfl (Nat.le_of_ble_eq_true rfl) ⟨Nat.le_of_ble_eq_true rfl, Nat.le_of_ble_eq_true rfl⟩ ⟨(bud3 (c := 1) hq hk (by decide)).2, (bud4 (c := 6) hq hns (by decide)).2⟩ (fun _ h => h.elim) xav_no (fun r1 hp1 hq1 => ?_)
  by_cases hc : ((oRd (xin (xs (i + 1)) nl) (f 23 (xs (i + 1)).toNatClampNeg) n f g)).2.1 0 = 0
  · obtain ⟨rfl, o2, jc2, jr2, hA, -⟩ := hq1
    obtain ⟨e1, rfl⟩ := hA hc
    refine a_istore (i := 5) C dL_law_2311 (by decide) ?_
    refine a_aload_n (i := 2) C dL_law_2313 rfl rfl ?_
    refine a_aload_n (i := 0) C dL_law_2314 rfl rfl ?_
    refine a_iload (i := 4) C dL_law_2315 rfl ?_
    refine a_iconst (v := 1) C dL_law_2317 (by decide) ?_
    refine a_iadd C dL_law_2318 ?_
    refine a_top (nI (i + 1)) (nI_add i 1) ?_
    refine a_scrGet C hS dL_law_2319 (by omega) (by omega) ?_
    refine a_hp xCM ?_
    refine a_callV C dL_law_2320 cv_X7_lineInvoice tb1281 (m_X7_lineInvoice hflags hI) rfl rfl xM_0 rfl (Nat.le_of_ble_eq_true rfl) ⟨Nat.le_of_ble_eq_true rfl, Nat.le_of_ble_eq_true rfl⟩ ⟨(bud3 (c := 1) hq hk (by decide)).2, (bud4 (c := 6) hq hns (by decide)).2⟩ (fun _ h => h.elim) xav_no (fun _ _ h => h.elim) (fun r2 hp2 hq2 => ?_)
    obtain ⟨rfl, rfl⟩ := hq2
    refine a_loc [(0, .ref 908), (1, .ref 0), (2, .ref 200), (3, .ref 230), (4, .int (nI i)), (5, .int (((oRd (xin (xs (i + 1)) nl) (f 23 (xs (i + 1)).toNatClampNeg) n f g)).2.1 0))] (xsub_cons rfl (xsub_cons rfl (xsub_cons rfl (xsub_cons rfl (xsub_cons rfl (xsub_cons rfl (xsub_nil))))))) ?_
    exact l_tail hflags C (p0 := 2323) dL_law_2323 dL_law_2325 dL_law_2326 dL_law_2329 dL_law_2331 dL_law_2336 dL_law_2338 dL_law_2341 dL_law_2342 dL_law_2343 dL_law_2344 dL_law_2346 dL_law_2347 dL_law_2348 dL_law_2353 (by decide) (bud3 (c := 1) hq hk (by decide)).2 (bud4 (c := 6) hq hns (by decide)).2 (fun _ => e1) (a_hp xCM.symm (next o2 _ _ _ _ _ _ _ jc2 jr2 _ _ (hS9.1 hc) (bud3 (c := 1) hq hk (by decide)).1 (bud4 (c := 6) hq hns (by decide)).1))
  · obtain ⟨rfl, o2, jc2, jr2, -, hF⟩ := hq1
    obtain rfl := hF hc
    refine a_istore (i := 5) C dL_law_2311 (by decide) ?_
    refine a_aload_n (i := 2) C dL_law_2313 rfl rfl ?_
    refine a_aload_n (i := 0) C dL_law_2314 rfl rfl ?_
    refine a_iload (i := 4) C dL_law_2315 rfl ?_
    refine a_iconst (v := 1) C dL_law_2317 (by decide) ?_
    refine a_iadd C dL_law_2318 ?_
    refine a_top (nI (i + 1)) (nI_add i 1) ?_
    refine a_scrGet C hS dL_law_2319 (by omega) (by omega) ?_
    refine a_hp xCM ?_
    refine a_callV C dL_law_2320 cv_X7_lineInvoice tb1281 (m_X7_lineInvoice hflags hI) rfl rfl xM_0 rfl (Nat.le_of_ble_eq_true rfl) ⟨Nat.le_of_ble_eq_true rfl, Nat.le_of_ble_eq_true rfl⟩ ⟨(bud3 (c := 1) hq hk (by decide)).2, (bud4 (c := 6) hq hns (by decide)).2⟩ (fun _ h => h.elim) xav_no (fun _ _ h => h.elim) (fun r2 hp2 hq2 => ?_)
    obtain ⟨rfl, rfl⟩ := hq2
    refine a_loc [(0, .ref 908), (1, .ref 0), (2, .ref 200), (3, .ref 230), (4, .int (nI i)), (5, .int (((oRd (xin (xs (i + 1)) nl) (f 23 (xs (i + 1)).toNatClampNeg) n f g)).2.1 0))] (xsub_cons rfl (xsub_cons rfl (xsub_cons rfl (xsub_cons rfl (xsub_cons rfl (xsub_cons rfl (xsub_nil))))))) ?_
    obtain ⟨eF, eG, e1, hJ2⟩ := hS9.2 hc
    refine l_tail hflags C (p0 := 2323) dL_law_2323 dL_law_2325 dL_law_2326 dL_law_2329 dL_law_2331 dL_law_2336 dL_law_2338 dL_law_2341 dL_law_2342 dL_law_2343 dL_law_2344 dL_law_2346 dL_law_2347 dL_law_2348 dL_law_2353 (by decide) (bud3 (c := 1) hq hk (by decide)).2 (bud4 (c := 6) hq hns (by decide)).2 (fun z => absurd z hc) ?_
    refine a_hp (show _ = xC (xM (xOut o2) ((oRd (xin (xs (i + 1)) nl) (f 23 (xs (i + 1)).toNatClampNeg) n f g)).2.1 f g) nc ni np nl (((oRd (xin (xs (i + 1)) nl) (f 23 (xs (i + 1)).toNatClampNeg) n f g)).2.1 1) f g jc2 jr2 by rw [eF, eG, e1, xCM]) ?_
    exact next o2 _ _ _ _ _ _ _ jc2 jr2 _ _ hJ2 (bud3 (c := 1) hq hk (by decide)).1 (bud4 (c := 6) hq hns (by decide)).1
set_option maxRecDepth 100000 in
set_option maxHeartbeats 4000000 in
theorem lc_lineAmount {E : xEnv} {l : Launch} {N0 : Nat} {D : va_G} {dT : Nat → ClassId} {ret : Option FieldType} {tab : List ExceptionTableEntry} (hflags : l.stackTraces = false) (C : aC E l N0 D dT cL_law "ReceivablesBookLaw" 7 ret tab room_1 nwLaw) (hN : xNcE E) {Ln i q9 : Nat} {xs : Nat → Int32} (hS : xScr Ln xs E) (hLn : Ln ≤ 2048) (hi : i + 4 ≤ Ln) (hq : q9 < 512) {o9 : Int64} {n : Nat → Int32} {f : Nat → Nat → Int32} {g : Nat → Nat → Int64} {nc ni np nl : Nat} {jc : Nat → Nat → Int32} {jr : Nat → Int64} {k ns : Nat} (hJ : JI n f g nc ni np nl q9) (hk : k ≤ 34 + 8 * q9 + 2 * lGen nl) (hns : ns ≤ 33300 + 100 * q9 + 4 * lCap nl) (next : ∀ (o : Int64) (n : Nat → Int32) (f : Nat → Nat → Int32) (g : Nat → Nat → Int64) (nc ni np nl : Nat) (jc : Nat → Nat → Int32) (jr : Nat → Int64) (k ns : Nat), JI n f g nc ni np nl (q9 + 1) → k ≤ 34 + 8 * (q9 + 1) + 2 * lGen nl → ns ≤ 33300 + 100 * (q9 + 1) + 4 * lCap nl → aW E k ns (xC (xM (xOut o) n f g) nc ni np nl (n 1) f g jc jr) 2412 [(0, .ref 908), (1, .ref 0), (2, .ref 200), (3, .ref 230), (4, .int (nI i))] []) : aW E k ns (xC (xM (xOut o9) n f g) nc ni np nl (n 1) f g jc jr) 2356 [(0, .ref 908), (1, .ref 0), (2, .ref 200), (3, .ref 230), (4, .int (nI i))] [] := by
  have hnl := JI_nl hJ (by omega)
  obtain ⟨hI, ⟨t9, ht, ht2, hG⟩, hLl⟩ := id hJ
  obtain ⟨-, -, -, -, hc6, hi24, hp24, hl16⟩ := id hI
  have hB : nc ≤ 6 ∧ ni ≤ 24 ∧ np ≤ 24 ∧ nl ≤ 16000 := ⟨hc6, hi24, hp24, hl16⟩
  have hS9 : sP n f g nc ni np nl q9 (nc) (ni) (np) (nl) ((oRd (xin (xs (i + 1)) nl) (f 24 (xs (i + 1)).toNatClampNeg) n f g)) := (sP_rd hJ)
  refine a_aload_n (i := 1) C dL_law_2356 rfl rfl ?_
  refine a_aload_n (i := 0) C dL_law_2357 rfl rfl ?_
  refine a_iload (i := 4) C dL_law_2358 rfl ?_
  refine a_iconst (v := 1) C dL_law_2360 (by decide) ?_
  refine a_iadd C dL_law_2361 ?_
  refine a_top (nI (i + 1)) (nI_add i 1) ?_
  refine a_scrGet C hS dL_law_2362 (by omega) (by omega) ?_
  refine a_aload_n (i := 3) C dL_law_2363 rfl rfl ?_
  refine a_callSN (na := 3) C hN dL_law_2364 ⟨tb925, tb46, tb926, ⟨by decide, by decide, by decide +kernel⟩⟩ tb924 (w_lineAmount hflags (o9 := o9) hB ) rfl rfl (Nat.le_of_ble_eq_true rfl) ⟨Nat.le_of_ble_eq_true rfl, Nat.le_of_ble_eq_true rfl⟩ ⟨(bud3 (c := 1) hq hk (by decide)).2, (bud4 (c := 6) hq hns (by decide)).2⟩ (fun _ h => h.elim) xav_no (fun r1 hp1 hq1 => ?_)
  by_cases hc : ((oRd (xin (xs (i + 1)) nl) (f 24 (xs (i + 1)).toNatClampNeg) n f g)).2.1 0 = 0
  · obtain ⟨rfl, o2, jc2, jr2, hA, -⟩ := hq1
    obtain ⟨e1, rfl⟩ := hA hc
    refine a_istore (i := 5) C dL_law_2367 (by decide) ?_
    refine a_aload_n (i := 2) C dL_law_2369 rfl rfl ?_
    refine a_aload_n (i := 0) C dL_law_2370 rfl rfl ?_
    refine a_iload (i := 4) C dL_law_2371 rfl ?_
    refine a_iconst (v := 1) C dL_law_2373 (by decide) ?_
    refine a_iadd C dL_law_2374 ?_
    refine a_top (nI (i + 1)) (nI_add i 1) ?_
    refine a_scrGet C hS dL_law_2375 (by omega) (by omega) ?_
    refine a_hp xCM ?_
    refine a_callV C dL_law_2376 cv_X7_lineAmount tb1289 (m_X7_lineAmount hflags hI) rfl rfl xM_0 rfl (Nat.le_of_ble_eq_true rfl) ⟨Nat.le_of_ble_eq_true rfl, Nat.le_of_ble_eq_true rfl⟩ ⟨(bud3 (c := 1) hq hk (by decide)).2, (bud4 (c := 6) hq hns (by decide)).2⟩ (fun _ h => h.elim) xav_no (fun _ _ h => h.elim) (fun r2 hp2 hq2 => ?_)
    obtain ⟨rfl, rfl⟩ := hq2
    refine a_loc [(0, .ref 908), (1, .ref 0), (2, .ref 200), (3, .ref 230), (4, .int (nI i)), (5, .int (((oRd (xin (xs (i + 1)) nl) (f 24 (xs (i + 1)).toNatClampNeg) n f g)).2.1 0))] (xsub_cons rfl (xsub_cons rfl (xsub_cons rfl (xsub_cons rfl (xsub_cons rfl (xsub_cons rfl (xsub_nil))))))) ?_
    exact l_tail hflags C (p0 := 2379) dL_law_2379 dL_law_2381 dL_law_2382 dL_law_2385 dL_law_2387 dL_law_2392 dL_law_2394 dL_law_2397 dL_law_2398 dL_law_2399 dL_law_2400 dL_law_2402 dL_law_2403 dL_law_2404 dL_law_2409 (by decide) (bud3 (c := 1) hq hk (by decide)).2 (bud4 (c := 6) hq hns (by decide)).2 (fun _ => e1) (a_hp xCM.symm (next o2 _ _ _ _ _ _ _ jc2 jr2 _ _ (hS9.1 hc) (bud3 (c := 1) hq hk (by decide)).1 (bud4 (c := 6) hq hns (by decide)).1))
  · obtain ⟨rfl, o2, jc2, jr2, -, hF⟩ := hq1
    obtain rfl := hF hc
    refine a_istore (i := 5) C dL_law_2367 (by decide) ?_
    refine a_aload_n (i := 2) C dL_law_2369 rfl rfl ?_
    refine a_aload_n (i := 0) C dL_law_2370 rfl rfl ?_
    refine a_iload (i := 4) C dL_law_2371 rfl ?_
    refine a_iconst (v := 1) C dL_law_2373 (by decide) ?_
    refine a_iadd C dL_law_2374 ?_
    refine a_top (nI (i + 1)) (nI_add i 1) ?_
    refine a_scrGet C hS dL_law_2375 (by omega) (by omega) ?_
    refine a_hp xCM ?_
    refine a_callV C dL_law_2376 cv_X7_lineAmount tb1289 (m_X7_lineAmount hflags hI) rfl rfl xM_0 rfl (Nat.le_of_ble_eq_true rfl) ⟨Nat.le_of_ble_eq_true rfl, Nat.le_of_ble_eq_true rfl⟩ ⟨(bud3 (c := 1) hq hk (by decide)).2, (bud4 (c := 6) hq hns (by decide)).2⟩ (fun _ h => h.elim) xav_no (fun _ _ h => h.elim) (fun r2 hp2 hq2 => ?_)
    obtain ⟨rfl, rfl⟩ := hq2
    refine a_loc [(0, .ref 908), (1, .ref 0), (2, .ref 200), (3, .ref 230), (4, .int (nI i)), (5, .int (((oRd (xin (xs (i + 1)) nl) (f 24 (xs (i + 1)).toNatClampNeg) n f g)).2.1 0))] (xsub_cons rfl (xsub_cons rfl (xsub_cons rfl (xsub_cons rfl (xsub_cons rfl (xsub_cons rfl (xsub_nil))))))) ?_
    obtain ⟨eF, eG, e1, hJ2⟩ := hS9.2 hc
    refine l_tail hflags C (p0 := 2379) dL_law_2379 dL_law_2381 dL_law_2382 dL_law_2385 dL_law_2387 dL_law_2392 dL_law_2394 dL_law_2397 dL_law_2398 dL_law_2399 dL_law_2400 dL_law_2402 dL_law_2403 dL_law_2404 dL_law_2409 (by decide) (bud3 (c := 1) hq hk (by decide)).2 (bud4 (c := 6) hq hns (by decide)).2 (fun z => absurd z hc) ?_
    refine a_hp (show _ = xC (xM (xOut o2) ((oRd (xin (xs (i + 1)) nl) (f 24 (xs (i + 1)).toNatClampNeg) n f g)).2.1 f g) nc ni np nl (((oRd (xin (xs (i + 1)) nl) (f 24 (xs (i + 1)).toNatClampNeg) n f g)).2.1 1) f g jc2 jr2 by rw [eF, eG, e1, xCM]) ?_
    exact next o2 _ _ _ _ _ _ _ jc2 jr2 _ _ hJ2 (bud3 (c := 1) hq hk (by decide)).1 (bud4 (c := 6) hq hns (by decide)).1
