/-! the law itself: its steps, its run -/
set_option maxRecDepth 100000 in
set_option maxHeartbeats 4000000 in
theorem law_tail {E : xEnv} {l : Launch} {N0 : Nat} {D : va_G} {dT : Nat → ClassId} {ret : Option FieldType} {tab : List ExceptionTableEntry} (hflags : l.stackTraces = false) (C : aC E l N0 D dT cL_law "ReceivablesBookLaw" 22 ret tab room_1 nwLaw) (hN : xNcE E) {n : Nat → Int32} {f : Nat → Nat → Int32} {g : Nat → Nat → Int64} {ni np nl q9 : Nat} {O G P M R : Nat → Int32} (hS : LSt n f g 2 ni np nl q9 O G P M R) {q : Nat} (hq : q9 ≤ 140) (hq64 : q < 64) {KB SB : Nat} (hKB : KB ≤ 600130) (hSB : SB ≤ 7301080) (kk79 : ∀ (jc : Nat → Nat → Int32) (jr : Nat → Int64) (k s9 : Nat), k ≤ KB → s9 ≤ SB → aW E k s9 (xC (xLw O G P M R) 2 ni np nl (n 1) f g jc jr) 79 [(0, .ref 908), (1, .ref 0), (2, .ref 230), (3, .ref 231), (4, .ref 232), (5, .ref 233), (6, .ref 234), (7, .int 1), (8, .int (nI (q + 1)))] []) {jc : Nat → Nat → Int32} {jr : Nat → Int64} {k s9 : Nat} (hk : k + 6200 ≤ KB) (hs : s9 + 37000 ≤ SB) : aW E k s9 (xC (xLw O G P M R) 2 ni np nl (n 1) f g jc jr) 1211 [(0, .ref 908), (1, .ref 0), (2, .ref 230), (3, .ref 231), (4, .ref 232), (5, .ref 233), (6, .ref 234), (7, .int 1), (8, .int (nI q))] [] := by
  refine a_iload (i := 8) C dL_law_1211 rfl ?_
  refine a_bipush (v := 8) C dL_law_1213 (by decide) ?_
  refine a_irem C dL_law_1215 (by decide) ?_
  refine a_top (nI (q % 8)) (iremN (b := 8) (by omega) (by omega)) ?_
  refine a_bipush (v := 7) C dL_law_1216 (by decide) ?_
  refine a_icmp_ne (tgt := 1253) C dL_law_1218 (by decide) (fun c1218 => ?_) (fun c1218 => ?_)
  · refine a_iinc (i := 8) (v := nI (q + 1)) C dL_law_1253 rfl (nI_1 q) (by decide) ?_
    refine a_goto (tgt := 79) C dL_law_1256 (by decide) ?_
    refine a_loc [(0, .ref 908), (1, .ref 0), (2, .ref 230), (3, .ref 231), (4, .ref 232), (5, .ref 233), (6, .ref 234), (7, .int 1), (8, .int (nI (q + 1)))] (xsub_cons rfl (xsub_cons rfl (xsub_cons rfl (xsub_cons rfl (xsub_cons rfl (xsub_cons rfl (xsub_cons rfl (xsub_cons rfl (xsub_cons rfl (xsub_nil)))))))))) ?_
    exact kk79 _ _ _ _ (by omega) (by omega)
  · refine a_iload (i := 7) C dL_law_1221 rfl ?_
    refine a_if_eq (tgt := 1250) C dL_law_1223 (by decide) (fun z => absurd z (by decide)) (fun _ => ?_)
    refine a_aload_n (i := 1) C dL_law_1226 rfl rfl ?_
    refine a_aload_n (i := 2) C dL_law_1227 rfl rfl ?_
    refine a_aload_n (i := 3) C dL_law_1228 rfl rfl ?_
    refine a_aload (i := 4) C dL_law_1229 rfl ?_
    refine a_aload (i := 5) C dL_law_1231 rfl ?_
    refine a_callSP (na := 5) C hN dL_law_1233 ⟨tb876, tb23, tb877, ⟨by decide, by decide, by decide +kernel⟩⟩ tb875 (p_addsUp hflags xBs_w hS.1 (by omega) xLa_w hS.2.2 hS.2.1) rfl rfl (Nat.le_of_ble_eq_true rfl) ⟨Nat.le_of_ble_eq_true rfl, Nat.le_of_ble_eq_true rfl⟩ ⟨show k + 5600 ≤ 600130 by omega, show s9 + 33600 ≤ 7301080 by omega⟩ (fun _ h => h.elim) xav_no (fun r1233 hp1233 hq1233 => ?_)
    obtain ⟨rfl, jc1233, jr1233, rfl⟩ := hq1233
    refine a_if_eq (tgt := 1250) C dL_law_1236 (by decide) (fun z => absurd z (by decide)) (fun _ => ?_)
    refine a_aload_n (i := 1) C dL_law_1239 rfl rfl ?_
    refine a_callSP (na := 1) C hN dL_law_1240 ⟨tb765, tb23, tb766, ⟨by decide, by decide, by decide +kernel⟩⟩ tb764 (p_refuses hflags xBs_w hS.1 (by omega) (by decide)) rfl rfl (Nat.le_of_ble_eq_true rfl) ⟨Nat.le_of_ble_eq_true rfl, Nat.le_of_ble_eq_true rfl⟩ ⟨show k + 5600 + 500 ≤ 600130 by omega, show s9 + 33600 + 3000 ≤ 7301080 by omega⟩ (fun j h => xnwB_lt h) ⟨fun q hq j hj => (by simp only [List.mem_cons, List.not_mem_nil, or_false] at hq; rcases hq with rfl | rfl | rfl | rfl | rfl | rfl | rfl | rfl | rfl <;> first | exact Value.noConfusion hj | exact xnwB_law (by decide) (Value.ref.inj hj)), fun v hv => nomatch hv⟩ (fun r1240 hp1240 hq1240 => ?_)
    obtain ⟨rfl, jc1240, jr1240, rfl⟩ := hq1240
    refine a_if_eq (tgt := 1250) C dL_law_1243 (by decide) (fun z => absurd z (by decide)) (fun _ => ?_)
    refine a_iconst (v := 1) C dL_law_1246 (by decide) ?_
    refine a_goto (tgt := 1251) C dL_law_1247 (by decide) ?_
    refine a_istore (i := 7) C dL_law_1251 (by decide) ?_
    refine a_iinc (i := 8) (v := nI (q + 1)) C dL_law_1253 rfl (nI_1 q) (by decide) ?_
    refine a_goto (tgt := 79) C dL_law_1256 (by decide) ?_
    refine a_loc [(0, .ref 908), (1, .ref 0), (2, .ref 230), (3, .ref 231), (4, .ref 232), (5, .ref 233), (6, .ref 234), (7, .int 1), (8, .int (nI (q + 1)))] (xsub_cons rfl (xsub_cons rfl (xsub_cons rfl (xsub_cons rfl (xsub_cons rfl (xsub_cons rfl (xsub_cons rfl (xsub_cons rfl (xsub_cons rfl (xsub_nil)))))))))) ?_
    exact kk79 _ _ _ _ (by omega) (by omega)
set_option maxRecDepth 100000 in
set_option maxHeartbeats 4000000 in
theorem law_end {E : xEnv} {l : Launch} {N0 : Nat} {D : va_G} {dT : Nat → ClassId} {ret : Option FieldType} {tab : List ExceptionTableEntry} (hflags : l.stackTraces = false) (C : aC E l N0 D dT cL_law "ReceivablesBookLaw" 22 ret tab room_1 nwLaw) (hN : xNcE E) {n : Nat → Int32} {f : Nat → Nat → Int32} {g : Nat → Nat → Int64} {ni np nl q9 : Nat} {O G P M R : Nat → Int32} (hS : LSt n f g 2 ni np nl q9 O G P M R) {q : Nat} (hq : q9 ≤ 140) (hfin : ∀ (k ns : Nat) (hp : xH) (L : List (Nat × Value)), k ≤ 600130 → ns ≤ 7301080 → aW E k ns hp 1282 L [.int 1]) {jc : Nat → Nat → Int32} {jr : Nat → Int64} {k s9 : Nat} (hk : k + 5600 ≤ 600130) (hs : s9 + 33600 ≤ 7301080) : aW E k s9 (xC (xLw O G P M R) 2 ni np nl (n 1) f g jc jr) 1259 [(0, .ref 908), (1, .ref 0), (2, .ref 230), (3, .ref 231), (4, .ref 232), (5, .ref 233), (6, .ref 234), (7, .int 1), (8, .int (nI q))] [] := by
  refine a_iload (i := 7) C dL_law_1259 rfl ?_
  refine a_if_eq (tgt := 1281) C dL_law_1261 (by decide) (fun z => absurd z (by decide)) (fun _ => ?_)
  refine a_aload_n (i := 1) C dL_law_1264 rfl rfl ?_
  refine a_aload_n (i := 2) C dL_law_1265 rfl rfl ?_
  refine a_aload_n (i := 3) C dL_law_1266 rfl rfl ?_
  refine a_aload (i := 4) C dL_law_1267 rfl ?_
  refine a_aload (i := 5) C dL_law_1269 rfl ?_
  refine a_callSP (na := 5) C hN dL_law_1271 ⟨tb876, tb23, tb877, ⟨by decide, by decide, by decide +kernel⟩⟩ tb875 (p_addsUp hflags xBs_w hS.1 (by omega) xLa_w hS.2.2 hS.2.1) rfl rfl (Nat.le_of_ble_eq_true rfl) ⟨Nat.le_of_ble_eq_true rfl, Nat.le_of_ble_eq_true rfl⟩ ⟨show k + 5600 ≤ 600130 by omega, show s9 + 33600 ≤ 7301080 by omega⟩ (fun _ h => h.elim) xav_no (fun r1271 hp1271 hq1271 => ?_)
  obtain ⟨rfl, jc1271, jr1271, rfl⟩ := hq1271
  refine a_if_eq (tgt := 1281) C dL_law_1274 (by decide) (fun z => absurd z (by decide)) (fun _ => ?_)
  refine a_iconst (v := 1) C dL_law_1277 (by decide) ?_
  refine a_goto (tgt := 1282) C dL_law_1278 (by decide) ?_
  exact hfin _ _ _ _ (by omega) (by omega)
set_option maxRecDepth 100000 in
set_option maxHeartbeats 4000000 in
theorem law_sw2 {E : xEnv} {l : Launch} {N0 : Nat} {D : va_G} {dT : Nat → ClassId} {ret : Option FieldType} {tab : List ExceptionTableEntry} (hflags : l.stackTraces = false) (C : aC E l N0 D dT cL_law "ReceivablesBookLaw" 22 ret tab room_1 nwLaw) (hN : xNcE E) {n : Nat → Int32} {f : Nat → Nat → Int32} {g : Nat → Nat → Int64} {ni np nl q9 q y c ii kk : Nat} {O G P M R : Nat → Int32} (hS : LSt n f g 2 ni np nl q9 O G P M R) (hq : q9 ≤ 135) (hy : y < 134217728) (hc : c < 2) {w : Nat} (hii : 0 < ni → ii < ni) (hkk : 0 < np → kk < np) {KB SB : Nat} (hKB : KB ≤ 600130) (hSB : SB ≤ 7301080) (next : ∀ (n : Nat → Int32) (f : Nat → Nat → Int32) (g : Nat → Nat → Int64) (ni np nl q1 : Nat) (O G P M R : Nat → Int32) (jc : Nat → Nat → Int32) (jr : Nat → Int64) (k s9 : Nat), LSt n f g 2 ni np nl q1 O G P M R → q1 ≤ q9 + 2 → k ≤ KB → s9 ≤ SB → aW E k s9 (xC (xLw O G P M R) 2 ni np nl (n 1) f g jc jr) 1211 [(0, .ref 908), (1, .ref 0), (2, .ref 230), (3, .ref 231), (4, .ref 232), (5, .ref 233), (6, .ref 234), (7, .int 1), (8, .int (nI q))] []) {jc : Nat → Nat → Int32} {jr : Nat → Int64} {k s9 : Nat} (hk : k + 400 ≤ KB) (hs : s9 + 40000 ≤ SB) : aW E k s9 (xC (xLw O G P M R) 2 ni np nl (n 1) f g jc jr) 179 [(0, .ref 908), (1, .ref 0), (2, .ref 230), (3, .ref 231), (4, .ref 232), (5, .ref 233), (6, .ref 234), (7, .int 1), (8, .int (nI q)), (10, .int (nI w)), (11, .int (nI y)), (12, .int (nI c)), (13, .int (nI ni)), (14, .int (nI ii)), (15, .int (nI kk))] [] := by
  have hJ := hS.1
  obtain ⟨hI, ⟨t9, ht, ht2, hG⟩, hLl⟩ := id hJ
  obtain ⟨-, -, -, -, -, hi24, hp24, hl16⟩ := id hI
  have hk1 := hS.2.1.2.1
  have hk2 := hS.2.1.2.2.1
  refine a_iload (i := 10) C dL_law_179 rfl ?_
  refine a_iconst (v := 4) C dL_law_181 (by decide) ?_
  refine a_icmp_ge (tgt := 268) C dL_law_182 (by decide) (fun c182 => ?_) (fun c182 => ?_)
  · refine a_iload (i := 10) C dL_law_268 rfl ?_
    refine a_bipush (v := 7) C dL_law_270 (by decide) ?_
    refine a_icmp_ge (tgt := 304) C dL_law_272 (by decide) (fun c272 => ?_) (fun c272 => ?_)
    · refine a_iload (i := 10) C dL_law_304 rfl ?_
      refine a_bipush (v := 8) C dL_law_306 (by decide) ?_
      refine a_icmp_ge (tgt := 372) C dL_law_308 (by decide) (fun c308 => ?_) (fun c308 => ?_)
      · refine a_iload (i := 10) C dL_law_372 rfl ?_
        refine a_bipush (v := 9) C dL_law_374 (by decide) ?_
        refine a_icmp_ge (tgt := 490) C dL_law_376 (by decide) (fun c376 => ?_) (fun c376 => ?_)
        · refine a_iload (i := 10) C dL_law_490 rfl ?_
          refine a_bipush (v := 10) C dL_law_492 (by decide) ?_
          refine a_icmp_ge (tgt := 533) C dL_law_494 (by decide) (fun c494 => ?_) (fun c494 => ?_)
          · refine a_iload (i := 10) C dL_law_533 rfl ?_
            refine a_bipush (v := 11) C dL_law_535 (by decide) ?_
            refine a_icmp_ge (tgt := 723) C dL_law_537 (by decide) (fun c537 => ?_) (fun c537 => ?_)
            · refine a_iload (i := 10) C dL_law_723 rfl ?_
              refine a_bipush (v := 12) C dL_law_725 (by decide) ?_
              refine a_icmp_ge (tgt := 800) C dL_law_727 (by decide) (fun c727 => ?_) (fun c727 => ?_)
              · refine a_iload (i := 13) C dL_law_800 rfl ?_
                refine a_if_le (tgt := 1211) C dL_law_802 (by decide) (fun c802 => ?_) (fun c802 => ?_)
                · refine a_loc [(0, .ref 908), (1, .ref 0), (2, .ref 230), (3, .ref 231), (4, .ref 232), (5, .ref 233), (6, .ref 234), (7, .int 1), (8, .int (nI q))] (xsub_cons rfl (xsub_cons rfl (xsub_cons rfl (xsub_cons rfl (xsub_cons rfl (xsub_cons rfl (xsub_cons rfl (xsub_cons rfl (xsub_cons rfl (xsub_nil)))))))))) ?_
                  exact next _ _ _ _ _ _ _ _ _ _ _ _ _ _ _ _ hS (by omega) (by omega) (by omega)
                · have hi0 : 0 < ni := by
                    rcases Nat.eq_zero_or_pos ni with z | z
                    · exact absurd ((xle (a := ni) (b := 0) (by omega) (by omega)).mpr (by omega)) c802
                    · exact z
                  refine a_aload_n (i := 1) C dL_law_805 rfl rfl ?_
                  refine a_callV C dL_law_806 cv_X6_payments tb150 (k_payments hflags) rfl rfl xC_0 rfl (Nat.le_of_ble_eq_true rfl) ⟨Nat.le_of_ble_eq_true rfl, Nat.le_of_ble_eq_true rfl⟩ ⟨show k + 0 ≤ 600130 by omega, show s9 + 0 ≤ 7301080 by omega⟩ (fun _ h => h.elim) xav_no (fun _ _ h => h.elim) (fun r806 hp806 hq806 => ?_)
                  obtain ⟨rfl, rfl⟩ := hq806
                  refine a_if_le (tgt := 1211) C dL_law_809 (by decide) (fun c809 => ?_) (fun c809 => ?_)
                  · refine a_loc [(0, .ref 908), (1, .ref 0), (2, .ref 230), (3, .ref 231), (4, .ref 232), (5, .ref 233), (6, .ref 234), (7, .int 1), (8, .int (nI q))] (xsub_cons rfl (xsub_cons rfl (xsub_cons rfl (xsub_cons rfl (xsub_cons rfl (xsub_cons rfl (xsub_cons rfl (xsub_cons rfl (xsub_cons rfl (xsub_nil)))))))))) ?_
                    exact next _ _ _ _ _ _ _ _ _ _ _ _ _ _ _ _ hS (by omega) (by omega) (by omega)
                  · have hp0 : 0 < np := by
                      rcases Nat.eq_zero_or_pos np with z | z
                      · exact absurd ((xle (a := np) (b := 0) (by omega) (by omega)).mpr (by omega)) c809
                      · exact z
                    refine a_iload (i := 10) C dL_law_812 rfl ?_
                    refine a_bipush (v := 13) C dL_law_814 (by decide) ?_
                    refine a_icmp_ge (tgt := 912) C dL_law_816 (by decide) (fun c816 => ?_) (fun c816 => ?_)
                    · refine a_iload (i := 10) C dL_law_912 rfl ?_
                      refine a_bipush (v := 14) C dL_law_914 (by decide) ?_
                      refine a_icmp_ge (tgt := 1004) C dL_law_916 (by decide) (fun c916 => ?_) (fun c916 => ?_)
                      · refine a_iload (i := 10) C dL_law_1004 rfl ?_
                        refine a_bipush (v := 15) C dL_law_1006 (by decide) ?_
                        refine a_icmp_ge (tgt := 1117) C dL_law_1008 (by decide) (fun c1008 => ?_) (fun c1008 => ?_)
                        · refine a_loc [(0, .ref 908), (1, .ref 0), (2, .ref 230), (3, .ref 231), (4, .ref 232), (5, .ref 233), (6, .ref 234), (8, .int (nI q)), (11, .int (nI y)), (12, .int (nI c)), (13, .int (nI ni)), (14, .int (nI ii)), (15, .int (nI kk))] (xsub_cons rfl (xsub_cons rfl (xsub_cons rfl (xsub_cons rfl (xsub_cons rfl (xsub_cons rfl (xsub_cons rfl (xsub_cons rfl (xsub_cons rfl (xsub_cons rfl (xsub_cons rfl (xsub_cons rfl (xsub_cons rfl (xsub_nil)))))))))))))) ?_
                          exact lc_settle hflags C hN hS hq hy hc (hii hi0) (hkk hp0) hKB hSB next hk hs
                        · refine a_loc [(0, .ref 908), (1, .ref 0), (2, .ref 230), (3, .ref 231), (4, .ref 232), (5, .ref 233), (6, .ref 234), (8, .int (nI q)), (11, .int (nI y)), (12, .int (nI c)), (13, .int (nI ni)), (14, .int (nI ii)), (15, .int (nI kk))] (xsub_cons rfl (xsub_cons rfl (xsub_cons rfl (xsub_cons rfl (xsub_cons rfl (xsub_cons rfl (xsub_cons rfl (xsub_cons rfl (xsub_cons rfl (xsub_cons rfl (xsub_cons rfl (xsub_cons rfl (xsub_cons rfl (xsub_nil)))))))))))))) ?_
                          exact lc_alloc hflags C hN hS hq hy hc (hii hi0) (hkk hp0) hKB hSB next hk hs
                      · refine a_loc [(0, .ref 908), (1, .ref 0), (2, .ref 230), (3, .ref 231), (4, .ref 232), (5, .ref 233), (6, .ref 234), (8, .int (nI q)), (11, .int (nI y)), (12, .int (nI c)), (13, .int (nI ni)), (14, .int (nI ii)), (15, .int (nI kk))] (xsub_cons rfl (xsub_cons rfl (xsub_cons rfl (xsub_cons rfl (xsub_cons rfl (xsub_cons rfl (xsub_cons rfl (xsub_cons rfl (xsub_cons rfl (xsub_cons rfl (xsub_cons rfl (xsub_cons rfl (xsub_cons rfl (xsub_nil)))))))))))))) ?_
                        exact lc_reverse hflags C hN hS hq hy hc (hii hi0) (hkk hp0) hKB hSB next hk hs
                    · refine a_loc [(0, .ref 908), (1, .ref 0), (2, .ref 230), (3, .ref 231), (4, .ref 232), (5, .ref 233), (6, .ref 234), (8, .int (nI q)), (11, .int (nI y)), (12, .int (nI c)), (13, .int (nI ni)), (14, .int (nI ii)), (15, .int (nI kk))] (xsub_cons rfl (xsub_cons rfl (xsub_cons rfl (xsub_cons rfl (xsub_cons rfl (xsub_cons rfl (xsub_cons rfl (xsub_cons rfl (xsub_cons rfl (xsub_cons rfl (xsub_cons rfl (xsub_cons rfl (xsub_cons rfl (xsub_nil)))))))))))))) ?_
                      exact lc_release hflags C hN hS hq hy hc (hii hi0) (hkk hp0) hKB hSB next hk hs
              · refine a_loc [(0, .ref 908), (1, .ref 0), (2, .ref 230), (3, .ref 231), (4, .ref 232), (5, .ref 233), (6, .ref 234), (8, .int (nI q)), (11, .int (nI y)), (12, .int (nI c)), (13, .int (nI ni)), (14, .int (nI ii)), (15, .int (nI kk))] (xsub_cons rfl (xsub_cons rfl (xsub_cons rfl (xsub_cons rfl (xsub_cons rfl (xsub_cons rfl (xsub_cons rfl (xsub_cons rfl (xsub_cons rfl (xsub_cons rfl (xsub_cons rfl (xsub_cons rfl (xsub_cons rfl (xsub_nil)))))))))))))) ?_
                exact lc_rule hflags C hN hS hq hy hc hKB hSB next hk hs
            · refine a_loc [(0, .ref 908), (1, .ref 0), (2, .ref 230), (3, .ref 231), (4, .ref 232), (5, .ref 233), (6, .ref 234), (8, .int (nI q)), (11, .int (nI y)), (12, .int (nI c)), (13, .int (nI ni)), (14, .int (nI ii)), (15, .int (nI kk))] (xsub_cons rfl (xsub_cons rfl (xsub_cons rfl (xsub_cons rfl (xsub_cons rfl (xsub_cons rfl (xsub_cons rfl (xsub_cons rfl (xsub_cons rfl (xsub_cons rfl (xsub_cons rfl (xsub_cons rfl (xsub_cons rfl (xsub_nil)))))))))))))) ?_
              exact lc_charge hflags C hN hS hq hy hc hKB hSB next hk hs
          · refine a_loc [(0, .ref 908), (1, .ref 0), (2, .ref 230), (3, .ref 231), (4, .ref 232), (5, .ref 233), (6, .ref 234), (8, .int (nI q)), (11, .int (nI y)), (12, .int (nI c)), (13, .int (nI ni)), (14, .int (nI ii)), (15, .int (nI kk))] (xsub_cons rfl (xsub_cons rfl (xsub_cons rfl (xsub_cons rfl (xsub_cons rfl (xsub_cons rfl (xsub_cons rfl (xsub_cons rfl (xsub_cons rfl (xsub_cons rfl (xsub_cons rfl (xsub_cons rfl (xsub_cons rfl (xsub_nil)))))))))))))) ?_
            exact lc_rest hflags C hN hS hq hy hc hKB hSB next hk hs
        · refine a_loc [(0, .ref 908), (1, .ref 0), (2, .ref 230), (3, .ref 231), (4, .ref 232), (5, .ref 233), (6, .ref 234), (8, .int (nI q)), (11, .int (nI y)), (12, .int (nI c)), (13, .int (nI ni)), (14, .int (nI ii)), (15, .int (nI kk))] (xsub_cons rfl (xsub_cons rfl (xsub_cons rfl (xsub_cons rfl (xsub_cons rfl (xsub_cons rfl (xsub_cons rfl (xsub_cons rfl (xsub_cons rfl (xsub_cons rfl (xsub_cons rfl (xsub_cons rfl (xsub_cons rfl (xsub_nil)))))))))))))) ?_
          exact lc_disp hflags C hN hS hq hy hc hKB hSB next hk hs
      · refine a_loc [(0, .ref 908), (1, .ref 0), (2, .ref 230), (3, .ref 231), (4, .ref 232), (5, .ref 233), (6, .ref 234), (8, .int (nI q)), (11, .int (nI y)), (12, .int (nI c)), (13, .int (nI ni)), (14, .int (nI ii)), (15, .int (nI kk))] (xsub_cons rfl (xsub_cons rfl (xsub_cons rfl (xsub_cons rfl (xsub_cons rfl (xsub_cons rfl (xsub_cons rfl (xsub_cons rfl (xsub_cons rfl (xsub_cons rfl (xsub_cons rfl (xsub_cons rfl (xsub_cons rfl (xsub_nil)))))))))))))) ?_
        exact lc_pass hflags C hN hS hq hy hc hKB hSB next hk hs
    · refine a_loc [(0, .ref 908), (1, .ref 0), (2, .ref 230), (3, .ref 231), (4, .ref 232), (5, .ref 233), (6, .ref 234), (8, .int (nI q)), (11, .int (nI y)), (12, .int (nI c)), (13, .int (nI ni)), (14, .int (nI ii)), (15, .int (nI kk))] (xsub_cons rfl (xsub_cons rfl (xsub_cons rfl (xsub_cons rfl (xsub_cons rfl (xsub_cons rfl (xsub_cons rfl (xsub_cons rfl (xsub_cons rfl (xsub_cons rfl (xsub_cons rfl (xsub_cons rfl (xsub_cons rfl (xsub_nil)))))))))))))) ?_
      exact lc_pays hflags C hN hS hq hy hc hKB hSB next hk hs
  · refine a_loc [(0, .ref 908), (1, .ref 0), (2, .ref 230), (3, .ref 231), (4, .ref 232), (5, .ref 233), (6, .ref 234), (8, .int (nI q)), (11, .int (nI y)), (12, .int (nI c)), (13, .int (nI ni)), (14, .int (nI ii)), (15, .int (nI kk))] (xsub_cons rfl (xsub_cons rfl (xsub_cons rfl (xsub_cons rfl (xsub_cons rfl (xsub_cons rfl (xsub_cons rfl (xsub_cons rfl (xsub_cons rfl (xsub_cons rfl (xsub_cons rfl (xsub_cons rfl (xsub_cons rfl (xsub_nil)))))))))))))) ?_
    exact lc_invoice hflags C hN hS hq hy hc hKB hSB next hk hs
set_option maxRecDepth 100000 in
set_option maxHeartbeats 4000000 in
theorem law_sw1 {E : xEnv} {l : Launch} {N0 : Nat} {D : va_G} {dT : Nat → ClassId} {ret : Option FieldType} {tab : List ExceptionTableEntry} (hflags : l.stackTraces = false) (C : aC E l N0 D dT cL_law "ReceivablesBookLaw" 22 ret tab room_1 nwLaw) (hN : xNcE E) {n : Nat → Int32} {f : Nat → Nat → Int32} {g : Nat → Nat → Int64} {ni np nl q9 q X w : Nat} {O G P M R : Nat → Int32} (hS : LSt n f g 2 ni np nl q9 O G P M R) (hq : q9 ≤ 135) (hX31 : X < 2 ^ 31) {KB SB : Nat} (hKB : KB ≤ 600130) (hSB : SB ≤ 7301080) (next : ∀ (n : Nat → Int32) (f : Nat → Nat → Int32) (g : Nat → Nat → Int64) (ni np nl q1 : Nat) (O G P M R : Nat → Int32) (jc : Nat → Nat → Int32) (jr : Nat → Int64) (k s9 : Nat), LSt n f g 2 ni np nl q1 O G P M R → q1 ≤ q9 + 2 → k ≤ KB → s9 ≤ SB → aW E k s9 (xC (xLw O G P M R) 2 ni np nl (n 1) f g jc jr) 1211 [(0, .ref 908), (1, .ref 0), (2, .ref 230), (3, .ref 231), (4, .ref 232), (5, .ref 233), (6, .ref 234), (7, .int 1), (8, .int (nI q))] []) {jc : Nat → Nat → Int32} {jr : Nat → Int64} {k s9 : Nat} (hk : k + 400 ≤ KB) (hs : s9 + 40000 ≤ SB) : aW E k s9 (xC (xLw O G P M R) 2 ni np nl (n 1) f g jc jr) 116 [(0, .ref 908), (1, .ref 0), (2, .ref 230), (3, .ref 231), (4, .ref 232), (5, .ref 233), (6, .ref 234), (7, .int 1), (8, .int (nI q)), (9, .int (nI X)), (10, .int (nI w))] [] := by
  have hJ := hS.1
  obtain ⟨hI, ⟨t9, ht, ht2, hG⟩, hLl⟩ := id hJ
  obtain ⟨-, -, -, -, -, hi24, hp24, hl16⟩ := id hI
  have hk1 := hS.2.1.2.1
  have hk2 := hS.2.1.2.2.1
  refine a_iload (i := 9) C dL_law_116 rfl ?_
  refine a_bipush (v := 16) C dL_law_118 (by decide) ?_
  refine a_idiv C dL_law_120 (by decide) ?_
  refine a_top (nI (X / 16)) (idivN (b := 16) (by omega) (by omega)) ?_
  refine a_istore (i := 11) C dL_law_121 (by decide) ?_
  refine a_iload (i := 11) C dL_law_123 rfl ?_
  refine a_aload_n (i := 1) C dL_law_125 rfl rfl ?_
  refine a_callV C dL_law_126 cv_X6_customers tb138 (k_customers hflags) rfl rfl xC_0 rfl (Nat.le_of_ble_eq_true rfl) ⟨Nat.le_of_ble_eq_true rfl, Nat.le_of_ble_eq_true rfl⟩ ⟨show k + 0 ≤ 600130 by omega, show s9 + 0 ≤ 7301080 by omega⟩ (fun _ h => h.elim) xav_no (fun _ _ h => h.elim) (fun r126 hp126 hq126 => ?_)
  obtain ⟨rfl, rfl⟩ := hq126
  refine a_irem C dL_law_129 (by decide) ?_
  refine a_top (nI (X / 16 % 2)) (iremN (b := 2) (by omega) (by omega)) ?_
  refine a_istore (i := 12) C dL_law_130 (by decide) ?_
  refine a_aload_n (i := 1) C dL_law_132 rfl rfl ?_
  refine a_callV C dL_law_133 cv_X6_invoices tb146 (k_invoices hflags) rfl rfl xC_0 rfl (Nat.le_of_ble_eq_true rfl) ⟨Nat.le_of_ble_eq_true rfl, Nat.le_of_ble_eq_true rfl⟩ ⟨show k + 0 ≤ 600130 by omega, show s9 + 0 ≤ 7301080 by omega⟩ (fun _ h => h.elim) xav_no (fun _ _ h => h.elim) (fun r133 hp133 hq133 => ?_)
  obtain ⟨rfl, rfl⟩ := hq133
  refine a_istore (i := 13) C dL_law_136 (by decide) ?_
  refine a_iload (i := 13) C dL_law_138 rfl ?_
  refine a_if_ne (tgt := 147) C dL_law_140 (by decide) (fun c140 => ?_) (fun c140 => ?_)
  · refine a_iload (i := 11) C dL_law_147 rfl ?_
    refine a_bipush (v := 8) C dL_law_149 (by decide) ?_
    refine a_idiv C dL_law_151 (by decide) ?_
    refine a_top (nI (X / 16 / 8)) (idivN (b := 8) (by omega) (by omega)) ?_
    refine a_iload (i := 13) C dL_law_152 rfl ?_
    refine a_irem C dL_law_154 c140 ?_
    refine a_top (nI (X / 16 / 8 % ni)) (iremN (by omega) ⟨by rcases Nat.eq_zero_or_pos ni with z | z; exact absurd (by rw [z]; rfl) c140; exact z, by omega⟩) ?_
    refine a_istore (i := 14) C dL_law_155 (by decide) ?_
    refine a_aload_n (i := 1) C dL_law_157 rfl rfl ?_
    refine a_callV C dL_law_158 cv_X6_payments tb150 (k_payments hflags) rfl rfl xC_0 rfl (Nat.le_of_ble_eq_true rfl) ⟨Nat.le_of_ble_eq_true rfl, Nat.le_of_ble_eq_true rfl⟩ ⟨show k + 0 ≤ 600130 by omega, show s9 + 0 ≤ 7301080 by omega⟩ (fun _ h => h.elim) xav_no (fun _ _ h => h.elim) (fun r158 hp158 hq158 => ?_)
    obtain ⟨rfl, rfl⟩ := hq158
    refine a_if_ne (tgt := 168) C dL_law_161 (by decide) (fun c161 => ?_) (fun c161 => ?_)
    · refine a_iload (i := 11) C dL_law_168 rfl ?_
      refine a_iconst (v := 4) C dL_law_170 (by decide) ?_
      refine a_idiv C dL_law_171 (by decide) ?_
      refine a_top (nI (X / 16 / 4)) (idivN (b := 4) (by omega) (by omega)) ?_
      refine a_aload_n (i := 1) C dL_law_172 rfl rfl ?_
      refine a_callV C dL_law_173 cv_X6_payments tb150 (k_payments hflags) rfl rfl xC_0 rfl (Nat.le_of_ble_eq_true rfl) ⟨Nat.le_of_ble_eq_true rfl, Nat.le_of_ble_eq_true rfl⟩ ⟨show k + 0 ≤ 600130 by omega, show s9 + 0 ≤ 7301080 by omega⟩ (fun _ h => h.elim) xav_no (fun _ _ h => h.elim) (fun r173 hp173 hq173 => ?_)
      obtain ⟨rfl, rfl⟩ := hq173
      refine a_irem C dL_law_176 c161 ?_
      refine a_top (nI (X / 16 / 4 % np)) (iremN (by omega) ⟨by rcases Nat.eq_zero_or_pos np with z | z; exact absurd (by rw [z]; rfl) c161; exact z, by omega⟩) ?_
      refine a_istore (i := 15) C dL_law_177 (by decide) ?_
      first
      | (refine a_loc [(0, .ref 908), (1, .ref 0), (2, .ref 230), (3, .ref 231), (4, .ref 232), (5, .ref 233), (6, .ref 234), (7, .int 1), (8, .int (nI q)), (10, .int (nI w)), (11, .int (nI (X / 16))), (12, .int (nI (X / 16 % 2))), (13, .int (nI ni)), (14, .int (nI (X / 16 / 8 % ni))), (15, .int (nI (X / 16 / 4 % np)))] (xsub_cons rfl (xsub_cons rfl (xsub_cons rfl (xsub_cons rfl (xsub_cons rfl (xsub_cons rfl (xsub_cons rfl (xsub_cons rfl (xsub_cons rfl (xsub_cons rfl (xsub_cons rfl (xsub_cons rfl (xsub_cons rfl (xsub_cons rfl (xsub_cons rfl (xsub_nil)))))))))))))))) ?_
         exact law_sw2 hflags C hN hS hq (by omega) (by omega) (fun z => Nat.mod_lt _ z) (fun z => Nat.mod_lt _ z) hKB hSB next hk hs)
      | (refine a_loc [(0, .ref 908), (1, .ref 0), (2, .ref 230), (3, .ref 231), (4, .ref 232), (5, .ref 233), (6, .ref 234), (7, .int 1), (8, .int (nI q)), (10, .int (nI w)), (11, .int (nI (X / 16))), (12, .int (nI (X / 16 % 2))), (13, .int (nI ni)), (14, .int (nI (X / 16 / 8 % ni))), (15, .int (nI (0)))] (xsub_cons rfl (xsub_cons rfl (xsub_cons rfl (xsub_cons rfl (xsub_cons rfl (xsub_cons rfl (xsub_cons rfl (xsub_cons rfl (xsub_cons rfl (xsub_cons rfl (xsub_cons rfl (xsub_cons rfl (xsub_cons rfl (xsub_cons rfl (xsub_cons rfl (xsub_nil)))))))))))))))) ?_
         exact law_sw2 hflags C hN hS hq (by omega) (by omega) (fun z => Nat.mod_lt _ z) (fun z => absurd z (by rw [(nI_eq (by omega) (by omega)).mp (show nI np = nI 0 from c161)]; decide)) hKB hSB next hk hs)
      | (refine a_loc [(0, .ref 908), (1, .ref 0), (2, .ref 230), (3, .ref 231), (4, .ref 232), (5, .ref 233), (6, .ref 234), (7, .int 1), (8, .int (nI q)), (10, .int (nI w)), (11, .int (nI (X / 16))), (12, .int (nI (X / 16 % 2))), (13, .int (nI ni)), (14, .int (nI (0))), (15, .int (nI (X / 16 / 4 % np)))] (xsub_cons rfl (xsub_cons rfl (xsub_cons rfl (xsub_cons rfl (xsub_cons rfl (xsub_cons rfl (xsub_cons rfl (xsub_cons rfl (xsub_cons rfl (xsub_cons rfl (xsub_cons rfl (xsub_cons rfl (xsub_cons rfl (xsub_cons rfl (xsub_cons rfl (xsub_nil)))))))))))))))) ?_
         exact law_sw2 hflags C hN hS hq (by omega) (by omega) (fun z => absurd z (by rw [(nI_eq (by omega) (by omega)).mp (show nI ni = nI 0 from c140)]; decide)) (fun z => Nat.mod_lt _ z) hKB hSB next hk hs)
      | (refine a_loc [(0, .ref 908), (1, .ref 0), (2, .ref 230), (3, .ref 231), (4, .ref 232), (5, .ref 233), (6, .ref 234), (7, .int 1), (8, .int (nI q)), (10, .int (nI w)), (11, .int (nI (X / 16))), (12, .int (nI (X / 16 % 2))), (13, .int (nI ni)), (14, .int (nI (0))), (15, .int (nI (0)))] (xsub_cons rfl (xsub_cons rfl (xsub_cons rfl (xsub_cons rfl (xsub_cons rfl (xsub_cons rfl (xsub_cons rfl (xsub_cons rfl (xsub_cons rfl (xsub_cons rfl (xsub_cons rfl (xsub_cons rfl (xsub_cons rfl (xsub_cons rfl (xsub_cons rfl (xsub_nil)))))))))))))))) ?_
         exact law_sw2 hflags C hN hS hq (by omega) (by omega) (fun z => absurd z (by rw [(nI_eq (by omega) (by omega)).mp (show nI ni = nI 0 from c140)]; decide)) (fun z => absurd z (by rw [(nI_eq (by omega) (by omega)).mp (show nI np = nI 0 from c161)]; decide)) hKB hSB next hk hs)
    · refine a_iconst (v := 0) C dL_law_164 (by decide) ?_
      refine a_goto (tgt := 177) C dL_law_165 (by decide) ?_
      refine a_istore (i := 15) C dL_law_177 (by decide) ?_
      first
      | (refine a_loc [(0, .ref 908), (1, .ref 0), (2, .ref 230), (3, .ref 231), (4, .ref 232), (5, .ref 233), (6, .ref 234), (7, .int 1), (8, .int (nI q)), (10, .int (nI w)), (11, .int (nI (X / 16))), (12, .int (nI (X / 16 % 2))), (13, .int (nI ni)), (14, .int (nI (X / 16 / 8 % ni))), (15, .int (nI (X / 16 / 4 % np)))] (xsub_cons rfl (xsub_cons rfl (xsub_cons rfl (xsub_cons rfl (xsub_cons rfl (xsub_cons rfl (xsub_cons rfl (xsub_cons rfl (xsub_cons rfl (xsub_cons rfl (xsub_cons rfl (xsub_cons rfl (xsub_cons rfl (xsub_cons rfl (xsub_cons rfl (xsub_nil)))))))))))))))) ?_
         exact law_sw2 hflags C hN hS hq (by omega) (by omega) (fun z => Nat.mod_lt _ z) (fun z => Nat.mod_lt _ z) hKB hSB next hk hs)
      | (refine a_loc [(0, .ref 908), (1, .ref 0), (2, .ref 230), (3, .ref 231), (4, .ref 232), (5, .ref 233), (6, .ref 234), (7, .int 1), (8, .int (nI q)), (10, .int (nI w)), (11, .int (nI (X / 16))), (12, .int (nI (X / 16 % 2))), (13, .int (nI ni)), (14, .int (nI (X / 16 / 8 % ni))), (15, .int (nI (0)))] (xsub_cons rfl (xsub_cons rfl (xsub_cons rfl (xsub_cons rfl (xsub_cons rfl (xsub_cons rfl (xsub_cons rfl (xsub_cons rfl (xsub_cons rfl (xsub_cons rfl (xsub_cons rfl (xsub_cons rfl (xsub_cons rfl (xsub_cons rfl (xsub_cons rfl (xsub_nil)))))))))))))))) ?_
         exact law_sw2 hflags C hN hS hq (by omega) (by omega) (fun z => Nat.mod_lt _ z) (fun z => absurd z (by rw [(nI_eq (by omega) (by omega)).mp (show nI np = nI 0 from c161)]; decide)) hKB hSB next hk hs)
      | (refine a_loc [(0, .ref 908), (1, .ref 0), (2, .ref 230), (3, .ref 231), (4, .ref 232), (5, .ref 233), (6, .ref 234), (7, .int 1), (8, .int (nI q)), (10, .int (nI w)), (11, .int (nI (X / 16))), (12, .int (nI (X / 16 % 2))), (13, .int (nI ni)), (14, .int (nI (0))), (15, .int (nI (X / 16 / 4 % np)))] (xsub_cons rfl (xsub_cons rfl (xsub_cons rfl (xsub_cons rfl (xsub_cons rfl (xsub_cons rfl (xsub_cons rfl (xsub_cons rfl (xsub_cons rfl (xsub_cons rfl (xsub_cons rfl (xsub_cons rfl (xsub_cons rfl (xsub_cons rfl (xsub_cons rfl (xsub_nil)))))))))))))))) ?_
         exact law_sw2 hflags C hN hS hq (by omega) (by omega) (fun z => absurd z (by rw [(nI_eq (by omega) (by omega)).mp (show nI ni = nI 0 from c140)]; decide)) (fun z => Nat.mod_lt _ z) hKB hSB next hk hs)
      | (refine a_loc [(0, .ref 908), (1, .ref 0), (2, .ref 230), (3, .ref 231), (4, .ref 232), (5, .ref 233), (6, .ref 234), (7, .int 1), (8, .int (nI q)), (10, .int (nI w)), (11, .int (nI (X / 16))), (12, .int (nI (X / 16 % 2))), (13, .int (nI ni)), (14, .int (nI (0))), (15, .int (nI (0)))] (xsub_cons rfl (xsub_cons rfl (xsub_cons rfl (xsub_cons rfl (xsub_cons rfl (xsub_cons rfl (xsub_cons rfl (xsub_cons rfl (xsub_cons rfl (xsub_cons rfl (xsub_cons rfl (xsub_cons rfl (xsub_cons rfl (xsub_cons rfl (xsub_cons rfl (xsub_nil)))))))))))))))) ?_
         exact law_sw2 hflags C hN hS hq (by omega) (by omega) (fun z => absurd z (by rw [(nI_eq (by omega) (by omega)).mp (show nI ni = nI 0 from c140)]; decide)) (fun z => absurd z (by rw [(nI_eq (by omega) (by omega)).mp (show nI np = nI 0 from c161)]; decide)) hKB hSB next hk hs)
  · refine a_iconst (v := 0) C dL_law_143 (by decide) ?_
    refine a_goto (tgt := 155) C dL_law_144 (by decide) ?_
    refine a_istore (i := 14) C dL_law_155 (by decide) ?_
    refine a_aload_n (i := 1) C dL_law_157 rfl rfl ?_
    refine a_callV C dL_law_158 cv_X6_payments tb150 (k_payments hflags) rfl rfl xC_0 rfl (Nat.le_of_ble_eq_true rfl) ⟨Nat.le_of_ble_eq_true rfl, Nat.le_of_ble_eq_true rfl⟩ ⟨show k + 0 ≤ 600130 by omega, show s9 + 0 ≤ 7301080 by omega⟩ (fun _ h => h.elim) xav_no (fun _ _ h => h.elim) (fun r158 hp158 hq158 => ?_)
    obtain ⟨rfl, rfl⟩ := hq158
    refine a_if_ne (tgt := 168) C dL_law_161 (by decide) (fun c161 => ?_) (fun c161 => ?_)
    · refine a_iload (i := 11) C dL_law_168 rfl ?_
      refine a_iconst (v := 4) C dL_law_170 (by decide) ?_
      refine a_idiv C dL_law_171 (by decide) ?_
      refine a_top (nI (X / 16 / 4)) (idivN (b := 4) (by omega) (by omega)) ?_
      refine a_aload_n (i := 1) C dL_law_172 rfl rfl ?_
      refine a_callV C dL_law_173 cv_X6_payments tb150 (k_payments hflags) rfl rfl xC_0 rfl (Nat.le_of_ble_eq_true rfl) ⟨Nat.le_of_ble_eq_true rfl, Nat.le_of_ble_eq_true rfl⟩ ⟨show k + 0 ≤ 600130 by omega, show s9 + 0 ≤ 7301080 by omega⟩ (fun _ h => h.elim) xav_no (fun _ _ h => h.elim) (fun r173 hp173 hq173 => ?_)
      obtain ⟨rfl, rfl⟩ := hq173
      refine a_irem C dL_law_176 c161 ?_
      refine a_top (nI (X / 16 / 4 % np)) (iremN (by omega) ⟨by rcases Nat.eq_zero_or_pos np with z | z; exact absurd (by rw [z]; rfl) c161; exact z, by omega⟩) ?_
      refine a_istore (i := 15) C dL_law_177 (by decide) ?_
      first
      | (refine a_loc [(0, .ref 908), (1, .ref 0), (2, .ref 230), (3, .ref 231), (4, .ref 232), (5, .ref 233), (6, .ref 234), (7, .int 1), (8, .int (nI q)), (10, .int (nI w)), (11, .int (nI (X / 16))), (12, .int (nI (X / 16 % 2))), (13, .int (nI ni)), (14, .int (nI (X / 16 / 8 % ni))), (15, .int (nI (X / 16 / 4 % np)))] (xsub_cons rfl (xsub_cons rfl (xsub_cons rfl (xsub_cons rfl (xsub_cons rfl (xsub_cons rfl (xsub_cons rfl (xsub_cons rfl (xsub_cons rfl (xsub_cons rfl (xsub_cons rfl (xsub_cons rfl (xsub_cons rfl (xsub_cons rfl (xsub_cons rfl (xsub_nil)))))))))))))))) ?_
         exact law_sw2 hflags C hN hS hq (by omega) (by omega) (fun z => Nat.mod_lt _ z) (fun z => Nat.mod_lt _ z) hKB hSB next hk hs)
      | (refine a_loc [(0, .ref 908), (1, .ref 0), (2, .ref 230), (3, .ref 231), (4, .ref 232), (5, .ref 233), (6, .ref 234), (7, .int 1), (8, .int (nI q)), (10, .int (nI w)), (11, .int (nI (X / 16))), (12, .int (nI (X / 16 % 2))), (13, .int (nI ni)), (14, .int (nI (X / 16 / 8 % ni))), (15, .int (nI (0)))] (xsub_cons rfl (xsub_cons rfl (xsub_cons rfl (xsub_cons rfl (xsub_cons rfl (xsub_cons rfl (xsub_cons rfl (xsub_cons rfl (xsub_cons rfl (xsub_cons rfl (xsub_cons rfl (xsub_cons rfl (xsub_cons rfl (xsub_cons rfl (xsub_cons rfl (xsub_nil)))))))))))))))) ?_
         exact law_sw2 hflags C hN hS hq (by omega) (by omega) (fun z => Nat.mod_lt _ z) (fun z => absurd z (by rw [(nI_eq (by omega) (by omega)).mp (show nI np = nI 0 from c161)]; decide)) hKB hSB next hk hs)
      | (refine a_loc [(0, .ref 908), (1, .ref 0), (2, .ref 230), (3, .ref 231), (4, .ref 232), (5, .ref 233), (6, .ref 234), (7, .int 1), (8, .int (nI q)), (10, .int (nI w)), (11, .int (nI (X / 16))), (12, .int (nI (X / 16 % 2))), (13, .int (nI ni)), (14, .int (nI (0))), (15, .int (nI (X / 16 / 4 % np)))] (xsub_cons rfl (xsub_cons rfl (xsub_cons rfl (xsub_cons rfl (xsub_cons rfl (xsub_cons rfl (xsub_cons rfl (xsub_cons rfl (xsub_cons rfl (xsub_cons rfl (xsub_cons rfl (xsub_cons rfl (xsub_cons rfl (xsub_cons rfl (xsub_cons rfl (xsub_nil)))))))))))))))) ?_
         exact law_sw2 hflags C hN hS hq (by omega) (by omega) (fun z => absurd z (by rw [(nI_eq (by omega) (by omega)).mp (show nI ni = nI 0 from c140)]; decide)) (fun z => Nat.mod_lt _ z) hKB hSB next hk hs)
      | (refine a_loc [(0, .ref 908), (1, .ref 0), (2, .ref 230), (3, .ref 231), (4, .ref 232), (5, .ref 233), (6, .ref 234), (7, .int 1), (8, .int (nI q)), (10, .int (nI w)), (11, .int (nI (X / 16))), (12, .int (nI (X / 16 % 2))), (13, .int (nI ni)), (14, .int (nI (0))), (15, .int (nI (0)))] (xsub_cons rfl (xsub_cons rfl (xsub_cons rfl (xsub_cons rfl (xsub_cons rfl (xsub_cons rfl (xsub_cons rfl (xsub_cons rfl (xsub_cons rfl (xsub_cons rfl (xsub_cons rfl (xsub_cons rfl (xsub_cons rfl (xsub_cons rfl (xsub_cons rfl (xsub_nil)))))))))))))))) ?_
         exact law_sw2 hflags C hN hS hq (by omega) (by omega) (fun z => absurd z (by rw [(nI_eq (by omega) (by omega)).mp (show nI ni = nI 0 from c140)]; decide)) (fun z => absurd z (by rw [(nI_eq (by omega) (by omega)).mp (show nI np = nI 0 from c161)]; decide)) hKB hSB next hk hs)
    · refine a_iconst (v := 0) C dL_law_164 (by decide) ?_
      refine a_goto (tgt := 177) C dL_law_165 (by decide) ?_
      refine a_istore (i := 15) C dL_law_177 (by decide) ?_
      first
      | (refine a_loc [(0, .ref 908), (1, .ref 0), (2, .ref 230), (3, .ref 231), (4, .ref 232), (5, .ref 233), (6, .ref 234), (7, .int 1), (8, .int (nI q)), (10, .int (nI w)), (11, .int (nI (X / 16))), (12, .int (nI (X / 16 % 2))), (13, .int (nI ni)), (14, .int (nI (X / 16 / 8 % ni))), (15, .int (nI (X / 16 / 4 % np)))] (xsub_cons rfl (xsub_cons rfl (xsub_cons rfl (xsub_cons rfl (xsub_cons rfl (xsub_cons rfl (xsub_cons rfl (xsub_cons rfl (xsub_cons rfl (xsub_cons rfl (xsub_cons rfl (xsub_cons rfl (xsub_cons rfl (xsub_cons rfl (xsub_cons rfl (xsub_nil)))))))))))))))) ?_
         exact law_sw2 hflags C hN hS hq (by omega) (by omega) (fun z => Nat.mod_lt _ z) (fun z => Nat.mod_lt _ z) hKB hSB next hk hs)
      | (refine a_loc [(0, .ref 908), (1, .ref 0), (2, .ref 230), (3, .ref 231), (4, .ref 232), (5, .ref 233), (6, .ref 234), (7, .int 1), (8, .int (nI q)), (10, .int (nI w)), (11, .int (nI (X / 16))), (12, .int (nI (X / 16 % 2))), (13, .int (nI ni)), (14, .int (nI (X / 16 / 8 % ni))), (15, .int (nI (0)))] (xsub_cons rfl (xsub_cons rfl (xsub_cons rfl (xsub_cons rfl (xsub_cons rfl (xsub_cons rfl (xsub_cons rfl (xsub_cons rfl (xsub_cons rfl (xsub_cons rfl (xsub_cons rfl (xsub_cons rfl (xsub_cons rfl (xsub_cons rfl (xsub_cons rfl (xsub_nil)))))))))))))))) ?_
         exact law_sw2 hflags C hN hS hq (by omega) (by omega) (fun z => Nat.mod_lt _ z) (fun z => absurd z (by rw [(nI_eq (by omega) (by omega)).mp (show nI np = nI 0 from c161)]; decide)) hKB hSB next hk hs)
      | (refine a_loc [(0, .ref 908), (1, .ref 0), (2, .ref 230), (3, .ref 231), (4, .ref 232), (5, .ref 233), (6, .ref 234), (7, .int 1), (8, .int (nI q)), (10, .int (nI w)), (11, .int (nI (X / 16))), (12, .int (nI (X / 16 % 2))), (13, .int (nI ni)), (14, .int (nI (0))), (15, .int (nI (X / 16 / 4 % np)))] (xsub_cons rfl (xsub_cons rfl (xsub_cons rfl (xsub_cons rfl (xsub_cons rfl (xsub_cons rfl (xsub_cons rfl (xsub_cons rfl (xsub_cons rfl (xsub_cons rfl (xsub_cons rfl (xsub_cons rfl (xsub_cons rfl (xsub_cons rfl (xsub_cons rfl (xsub_nil)))))))))))))))) ?_
         exact law_sw2 hflags C hN hS hq (by omega) (by omega) (fun z => absurd z (by rw [(nI_eq (by omega) (by omega)).mp (show nI ni = nI 0 from c140)]; decide)) (fun z => Nat.mod_lt _ z) hKB hSB next hk hs)
      | (refine a_loc [(0, .ref 908), (1, .ref 0), (2, .ref 230), (3, .ref 231), (4, .ref 232), (5, .ref 233), (6, .ref 234), (7, .int 1), (8, .int (nI q)), (10, .int (nI w)), (11, .int (nI (X / 16))), (12, .int (nI (X / 16 % 2))), (13, .int (nI ni)), (14, .int (nI (0))), (15, .int (nI (0)))] (xsub_cons rfl (xsub_cons rfl (xsub_cons rfl (xsub_cons rfl (xsub_cons rfl (xsub_cons rfl (xsub_cons rfl (xsub_cons rfl (xsub_cons rfl (xsub_cons rfl (xsub_cons rfl (xsub_cons rfl (xsub_cons rfl (xsub_cons rfl (xsub_cons rfl (xsub_nil)))))))))))))))) ?_
         exact law_sw2 hflags C hN hS hq (by omega) (by omega) (fun z => absurd z (by rw [(nI_eq (by omega) (by omega)).mp (show nI ni = nI 0 from c140)]; decide)) (fun z => absurd z (by rw [(nI_eq (by omega) (by omega)).mp (show nI np = nI 0 from c161)]; decide)) hKB hSB next hk hs)
set_option maxRecDepth 100000 in
set_option maxHeartbeats 4000000 in
theorem law_loop {E : xEnv} {l : Launch} {N0 : Nat} {D : va_G} {dT : Nat → ClassId} {ret : Option FieldType} {tab : List ExceptionTableEntry} (hflags : l.stackTraces = false) (C : aC E l N0 D dT cL_law "ReceivablesBookLaw" 22 ret tab room_1 nwLaw) (hN : xNcE E) {Ln : Nat} {xs : Nat → Int32} (hX : xScr Ln xs E) (hLn : Ln ≤ 260) (hfin : ∀ (k ns : Nat) (hp : xH) (L : List (Nat × Value)), k ≤ 600130 → ns ≤ 7301080 → aW E k ns hp 1282 L [.int 1]) : ∀ (fu q : Nat), q ≤ 64 → 64 < q + fu → ∀ (n : Nat → Int32) (f : Nat → Nat → Int32) (g : Nat → Nat → Int64) (ni np nl q9 : Nat) (O G P M R : Nat → Int32) (jc : Nat → Nat → Int32) (jr : Nat → Int64) (k s9 : Nat), LSt n f g 2 ni np nl q9 O G P M R → q9 ≤ 2 + 2 * q → k ≤ 2000 + 7000 * q → s9 ≤ 100000 + 80000 * q → aW E k s9 (xC (xLw O G P M R) 2 ni np nl (n 1) f g jc jr) 79 [(0, .ref 908), (1, .ref 0), (2, .ref 230), (3, .ref 231), (4, .ref 232), (5, .ref 233), (6, .ref 234), (7, .int 1), (8, .int (nI q))] [] := by
  intro fu
  induction fu with
  | zero => intro q h1 h2; exact absurd h2 (by omega)
  | succ fu ih =>
    intro q h1 h2 n f g ni np nl q9 O G P M R jc jr k s9 hS hq hk hs
    refine a_iload (i := 8) C dL_law_79 rfl ?_
    refine a_bipush (v := 64) C dL_law_81 (by decide) ?_
    refine a_icmp_ge (tgt := 1259) C dL_law_83 (by decide) (fun c83 => ?_) (fun c83 => ?_)
    · exact law_end hflags C hN hS (by omega) hfin (by omega) (by omega)
    · have hlt : q < 64 := by
        rcases Nat.lt_or_ge q 64 with z | z
        · exact z
        · exact absurd ((xle (a := 64) (b := q) (by omega) (by omega)).mpr z) c83
      refine a_iload (i := 7) C dL_law_86 rfl ?_
      refine a_if_eq (tgt := 1259) C dL_law_88 (by decide) (fun z => absurd z (by decide)) (fun _ => ?_)
      refine a_aload_n (i := 0) C dL_law_91 rfl rfl ?_
      refine a_iload (i := 8) C dL_law_92 rfl ?_
      refine a_callSS (na := 2) C hX dL_law_94 ⟨tb155, tb23, tb156, ⟨by decide, by decide, by decide +kernel⟩⟩ tb154 (p_draw hflags hLn hlt) rfl rfl (Nat.le_of_ble_eq_true rfl) ⟨Nat.le_of_ble_eq_true rfl, Nat.le_of_ble_eq_true rfl⟩ ⟨show k + 0 ≤ 600130 by omega, show s9 + 0 ≤ 7301080 by omega⟩ (fun _ h => h.elim) xav_no (fun r94 hp94 hq94 => ?_)
      obtain ⟨X, hX31, rfl, rfl⟩ := hq94
      refine a_istore (i := 9) C dL_law_97 (by decide) ?_
      refine a_iload (i := 8) C dL_law_99 rfl ?_
      refine a_iconst (v := 3) C dL_law_101 (by decide) ?_
      refine a_icmp_ge (tgt := 109) C dL_law_102 (by decide) (fun c102 => ?_) (fun c102 => ?_)
      · refine a_iload (i := 9) C dL_law_109 rfl ?_
        refine a_bipush (v := 16) C dL_law_111 (by decide) ?_
        refine a_irem C dL_law_113 (by decide) ?_
        refine a_top (nI (X % 16)) (iremN (b := 16) (by omega) (by omega)) ?_
        refine a_istore (i := 10) C dL_law_114 (by decide) ?_
        first
        | (refine a_loc [(0, .ref 908), (1, .ref 0), (2, .ref 230), (3, .ref 231), (4, .ref 232), (5, .ref 233), (6, .ref 234), (7, .int 1), (8, .int (nI q)), (9, .int (nI X)), (10, .int (nI 0))] (xsub_cons rfl (xsub_cons rfl (xsub_cons rfl (xsub_cons rfl (xsub_cons rfl (xsub_cons rfl (xsub_cons rfl (xsub_cons rfl (xsub_cons rfl (xsub_cons rfl (xsub_cons rfl (xsub_nil)))))))))))) ?_
           exact law_sw1 hflags C hN hS (by omega) hX31 (KB := k + 400) (SB := s9 + 40000) (by omega) (by omega) (fun n f g ni np nl q1 O G P M R jc jr k s9 hS1 hq1 hk1 hs1 => law_tail hflags C hN hS1 (by omega) hlt (KB := 2000 + 7000 * (q + 1)) (SB := 100000 + 80000 * (q + 1)) (by omega) (by omega) (fun jc jr k s9 hk2 hs2 => ih (q + 1) (by omega) (by omega) _ _ _ _ _ _ _ _ _ _ _ _ jc jr k s9 hS1 (by omega) hk2 hs2) (by omega) (by omega)) (by omega) (by omega))
        | (refine a_loc [(0, .ref 908), (1, .ref 0), (2, .ref 230), (3, .ref 231), (4, .ref 232), (5, .ref 233), (6, .ref 234), (7, .int 1), (8, .int (nI q)), (9, .int (nI X)), (10, .int (nI (X % 16)))] (xsub_cons rfl (xsub_cons rfl (xsub_cons rfl (xsub_cons rfl (xsub_cons rfl (xsub_cons rfl (xsub_cons rfl (xsub_cons rfl (xsub_cons rfl (xsub_cons rfl (xsub_cons rfl (xsub_nil)))))))))))) ?_
           exact law_sw1 hflags C hN hS (by omega) hX31 (KB := k + 400) (SB := s9 + 40000) (by omega) (by omega) (fun n f g ni np nl q1 O G P M R jc jr k s9 hS1 hq1 hk1 hs1 => law_tail hflags C hN hS1 (by omega) hlt (KB := 2000 + 7000 * (q + 1)) (SB := 100000 + 80000 * (q + 1)) (by omega) (by omega) (fun jc jr k s9 hk2 hs2 => ih (q + 1) (by omega) (by omega) _ _ _ _ _ _ _ _ _ _ _ _ jc jr k s9 hS1 (by omega) hk2 hs2) (by omega) (by omega)) (by omega) (by omega))
      · refine a_iconst (v := 0) C dL_law_105 (by decide) ?_
        refine a_goto (tgt := 114) C dL_law_106 (by decide) ?_
        refine a_istore (i := 10) C dL_law_114 (by decide) ?_
        first
        | (refine a_loc [(0, .ref 908), (1, .ref 0), (2, .ref 230), (3, .ref 231), (4, .ref 232), (5, .ref 233), (6, .ref 234), (7, .int 1), (8, .int (nI q)), (9, .int (nI X)), (10, .int (nI 0))] (xsub_cons rfl (xsub_cons rfl (xsub_cons rfl (xsub_cons rfl (xsub_cons rfl (xsub_cons rfl (xsub_cons rfl (xsub_cons rfl (xsub_cons rfl (xsub_cons rfl (xsub_cons rfl (xsub_nil)))))))))))) ?_
           exact law_sw1 hflags C hN hS (by omega) hX31 (KB := k + 400) (SB := s9 + 40000) (by omega) (by omega) (fun n f g ni np nl q1 O G P M R jc jr k s9 hS1 hq1 hk1 hs1 => law_tail hflags C hN hS1 (by omega) hlt (KB := 2000 + 7000 * (q + 1)) (SB := 100000 + 80000 * (q + 1)) (by omega) (by omega) (fun jc jr k s9 hk2 hs2 => ih (q + 1) (by omega) (by omega) _ _ _ _ _ _ _ _ _ _ _ _ jc jr k s9 hS1 (by omega) hk2 hs2) (by omega) (by omega)) (by omega) (by omega))
        | (refine a_loc [(0, .ref 908), (1, .ref 0), (2, .ref 230), (3, .ref 231), (4, .ref 232), (5, .ref 233), (6, .ref 234), (7, .int 1), (8, .int (nI q)), (9, .int (nI X)), (10, .int (nI (X % 16)))] (xsub_cons rfl (xsub_cons rfl (xsub_cons rfl (xsub_cons rfl (xsub_cons rfl (xsub_cons rfl (xsub_cons rfl (xsub_cons rfl (xsub_cons rfl (xsub_cons rfl (xsub_cons rfl (xsub_nil)))))))))))) ?_
           exact law_sw1 hflags C hN hS (by omega) hX31 (KB := k + 400) (SB := s9 + 40000) (by omega) (by omega) (fun n f g ni np nl q1 O G P M R jc jr k s9 hS1 hq1 hk1 hs1 => law_tail hflags C hN hS1 (by omega) hlt (KB := 2000 + 7000 * (q + 1)) (SB := 100000 + 80000 * (q + 1)) (by omega) (by omega) (fun jc jr k s9 hk2 hs2 => ih (q + 1) (by omega) (by omega) _ _ _ _ _ _ _ _ _ _ _ _ jc jr k s9 hS1 (by omega) hk2 hs2) (by omega) (by omega)) (by omega) (by omega))
theorem xNo_xBs : xBs (fun _ => none) := fun j e he => by cases he
theorem xC0_nr {h : xH} {b : Nat} (hh : ∀ j e, h j = some e → xnr b e) (hb : (127 < b ∧ b < 300)) : ∀ j e, xC h 0 0 0 0 0 z_f z_g (fun _ _ => 0) (fun _ => 0) j = some e → xnr b e := by
  refine xC_fr hh (fun k hk => by simp only [List.mem_cons, List.not_mem_nil, or_false] at hk; omega) ⟨?_, ?_, ?_⟩ ⟨?_, ?_⟩ (fun i hi => absurd hi (Nat.not_lt_zero i)) (fun i hi => absurd hi (Nat.not_lt_zero i)) (fun i => ⟨fun z => absurd z (Nat.not_lt_zero i), fun z => absurd z (Nat.not_lt_zero i), fun z => absurd z (Nat.not_lt_zero i)⟩)
  · show b ≠ 901; omega
  · show b ≠ 901; omega
  · show b ≠ 901; omega
  · show b ≠ 340; omega
  · show b ≠ 350; omega
theorem xnone_nr {b : Nat} : ∀ j e, (fun _ => none : xH) j = some e → xnr b e := fun j e he => by cases he
theorem xup_nr2 {h : xH} {a b N : Nat} {w : Nat → Int32} (hh : ∀ j e, h j = some e → xnr b e) : ∀ j e, xup h a (.inl (0, N, .inl w)) j = some e → xnr b e := by
  intro j e he
  by_cases hj : j = a
  · subst hj
    rw [xup_s] at he
    cases he
    exact xnr_i
  · rw [xup_n hj] at he
    exact hh j e he
theorem xw_new : xup (xup (xup (xup (xup (fun _ => none) 230 (.inl (0, 24, .inl (fun _ => 0)))) 231 (.inl (0, 24, .inl (fun _ => 0)))) 232 (.inl (0, 24, .inl (fun _ => 0)))) 233 (.inl (0, 24, .inl (fun _ => 0)))) 234 (.inl (0, 6, .inl (fun _ => 0))) = xLw (fun _ => 0) (fun _ => 0) (fun _ => 0) (fun _ => 0) (fun _ => 0) := by
  funext j
  by_cases h4 : j = 234
  · subst h4; rw [xup_s]; rfl
  by_cases h3 : j = 233
  · subst h3; rw [xup_n h4, xup_s]; rfl
  by_cases h2 : j = 232
  · subst h2; rw [xup_n h4, xup_n h3, xup_s]; rfl
  by_cases h1 : j = 231
  · subst h1; rw [xup_n h4, xup_n h3, xup_n h2, xup_s]; rfl
  by_cases h0 : j = 230
  · subst h0; rw [xup_n h4, xup_n h3, xup_n h2, xup_n h1, xup_s]; rfl
  rw [xup_n h4, xup_n h3, xup_n h2, xup_n h1, xup_n h0]
  unfold xLw
  rw [xb_f h0, xb_f h1, xb_f h2, xb_f h3, xb_f h4]
  rfl
theorem JI_z : JI z_n z_f z_g 0 0 0 0 0 := by
  refine ⟨⟨rfl, rfl, rfl, rfl, by omega, by omega, by omega, by omega⟩, ⟨0, rfl, by omega, ⟨fun i hi => absurd hi (Nat.not_lt_zero i), fun i hi => absurd hi (Nat.not_lt_zero i), fun i hi => absurd hi (Nat.not_lt_zero i)⟩, ⟨fun _ _ => ⟨rfl, rfl, rfl, rfl⟩, fun _ _ => rfl, fun _ _ => rfl, fun _ _ _ _ => rfl⟩, ⟨fun i hi => absurd hi (Nat.not_lt_zero i), fun i hi => absurd hi (Nat.not_lt_zero i)⟩, ⟨fun i hi => absurd hi (Nat.not_lt_zero i), fun i hi => absurd hi (Nat.not_lt_zero i), fun i hi => absurd hi (Nat.not_lt_zero i), fun i _ hi => absurd hi (Nat.not_lt_zero i), fun i hi => absurd hi (Nat.not_lt_zero i)⟩, fun i hi => absurd hi (Nat.not_lt_zero i), fun i hi => absurd hi (Nat.not_lt_zero i)⟩, ?_⟩
  show ((0 : Nat) : Int) + 24 * 0 ≤ 25 * ((0 : Nat) : Int) + 24 * ((0 : Nat) : Int)
  omega
theorem LSt_z : LSt z_n z_f z_g 0 0 0 0 0 (fun _ => 0) (fun _ => 0) (fun _ => 0) (fun _ => 0) (fun _ => 0) := by
  have no : ∀ {i : Nat} {q : Prop}, i < 0 → q := fun h => absurd h (Nat.not_lt_zero _)
  exact ⟨JI_z, ⟨⟨⟨fun i hi => no hi, fun p hp => no hp, fun p i hp _ _ => no hp⟩, ⟨fun i hi => no hi, fun j hj => no hj⟩, fun i hi => no hi⟩, fun i hi => no hi, fun p hp => no hp, fun c hc => no hc, fun p hp => no hp, fun i hi => no hi, fun c hc => no hc, fun i hi => no hi, fun i _ => rfl⟩, fun t _ _ i hi => no hi⟩
theorem LSt_2 : ∃ n1 f1 g1 n2 f2 g2, o_addCustomer 0 0 0 1200 z_n z_f z_g = (nI 0, n1, f1, g1) ∧ n1 0 = 0 ∧ LSt n1 f1 g1 1 0 0 0 1 (fun _ => 0) (fun _ => 0) (fun _ => 0) (fun _ => 0) (fun _ => 0) ∧ o_addCustomer 1 1 2 3000 n1 f1 g1 = (nI 1, n2, f2, g2) ∧ n2 0 = 0 ∧ LSt n2 f2 g2 2 0 0 0 2 (fun _ => 0) (fun _ => 0) (fun _ => 0) (fun _ => 0) (upd (fun _ => 0) 1 1) := by
  obtain ⟨n1, f1, e1, e2, s1⟩ := E_customer (r := 0) (v := 0) (w := 1200) LSt_z (by omega) (by omega) (Or.inl rfl) (by decide) (by decide)
  have e0 : upd (fun _ => (0 : Int32)) 0 0 = fun _ => 0 := xud_self (w := fun _ => (0 : Int32)) (i := 0)
  rw [e0] at s1
  obtain ⟨n2, f2, e3, e4, s2⟩ := E_customer (r := 1) (v := 2) (w := 3000) s1 (by omega) (by omega) (Or.inr (Or.inl rfl)) (by decide) (by decide)
  exact ⟨n1, f1, z_g, n2, f2, z_g, e1, e2, s1, e3, e4, s2⟩
set_option maxRecDepth 100000 in
set_option maxHeartbeats 4000000 in
theorem law_run {E : xEnv} {l : Launch} {N0 : Nat} {D : va_G} {dT : Nat → ClassId} {ret : Option FieldType} {tab : List ExceptionTableEntry} (hflags : l.stackTraces = false) (C : aC E l N0 D dT cL_law "ReceivablesBookLaw" 22 ret tab room_1 nwLaw) (hN : xNcE E) {Ln : Nat} {xs : Nat → Int32} (hX : xScr Ln xs E) (hLn : Ln ≤ 260) (hfin : ∀ (k ns : Nat) (hp : xH) (L : List (Nat × Value)), k ≤ 600130 → ns ≤ 7301080 → aW E k ns hp 1282 L [.int 1]) : aW E 0 0 (fun _ => none) 0 [(0, .ref 908)] [] := by
  obtain ⟨n1, f1, g1, n2, f2, g2, e1, e2, s1, e3, e4, s2⟩ := LSt_2
  refine a_new C (0) (ci := 6) (T := TX6) (ty := tyX6) (fs := zX6) dL_law_0 tb46 tb47 tb24 in_X6 tyX6_ok rfl nf_X6 nr_X6 (by decide) ⟨fun j e _ he => (by cases he), fun q hq => (by cases List.mem_singleton.mp hq; exact xnwO_no (by decide)), fun v hv => nomatch hv⟩ (Nat.le_of_ble_eq_true rfl) (Nat.le_of_ble_eq_true rfl) ?_
  refine a_dup C dL_law_3 rfl ?_
  refine a_callI C dL_law_4 ci_X6_init tb48 (m_X6_init hflags xNo_xBs) rfl rfl (Nat.le_of_ble_eq_true rfl) ⟨Nat.le_of_ble_eq_true rfl, Nat.le_of_ble_eq_true rfl⟩ ⟨Nat.le_of_ble_eq_true rfl, Nat.le_of_ble_eq_true rfl⟩ (fun j hj => by show j < 900; omega) ⟨fun q hq j hj => (by cases List.mem_singleton.mp hq; cases Value.ref.inj hj; show ¬ ((1 ≤ 908 ∧ 908 ≤ 13) ∨ (300 ≤ 908 ∧ 908 ≤ 399)); omega), fun v hv j hj => (by cases List.mem_singleton.mp hv; cases Value.ref.inj hj; show ¬ ((1 ≤ 0 ∧ 0 ≤ 13) ∨ (300 ≤ 0 ∧ 0 ≤ 399)); omega)⟩ (fun r1 hp1 hq1 => ?_)
  obtain ⟨rfl, rfl⟩ := hq1
  refine a_astore_n (i := 1) C dL_law_7 rfl (by decide) ?_
  refine a_loc [(0, .ref 908), (1, .ref 0)] (xsub_cons rfl (xsub_cons rfl xsub_nil)) ?_
  refine a_bipush (v := 24) C dL_law_8 (by decide) ?_
  refine a_newa C 230 0 (ty := .int) (N := 24) (f := .inl (fun _ => 0)) dL_law_10 rfl (fun _ => rfl) (fun _ z => FieldType.noConfusion z) tb97 (fun _ => rfl) (fun _ => rfl) (by decide) (by decide) (by decide) (by decide) ⟨fun j e _ he => xC0_nr xnone_nr (by decide) j e he, fun q hq => (by simp only [List.mem_cons, List.not_mem_nil, or_false] at hq; rcases hq with rfl | rfl <;> exact xnwO_no (by decide)), fun v hv => nomatch hv⟩ (Nat.le_of_ble_eq_true rfl) (Nat.le_of_ble_eq_true rfl) ?_
  refine a_hp (xCw_up (by decide)) ?_
  refine a_astore_n (i := 2) C dL_law_12 rfl (by decide) ?_
  refine a_loc [(0, .ref 908), (1, .ref 0), (2, .ref 230)] (xsub_cons rfl (xsub_cons rfl (xsub_cons rfl (xsub_nil)))) ?_
  refine a_bipush (v := 24) C dL_law_13 (by decide) ?_
  refine a_newa C 231 0 (ty := .int) (N := 24) (f := .inl (fun _ => 0)) dL_law_15 rfl (fun _ => rfl) (fun _ z => FieldType.noConfusion z) tb97 (fun _ => rfl) (fun _ => rfl) (by decide) (by decide) (by decide) (by decide) ⟨fun j e _ he => xC0_nr (xup_nr2 xnone_nr) (by decide) j e he, fun q hq => (by simp only [List.mem_cons, List.not_mem_nil, or_false] at hq; rcases hq with rfl | rfl | rfl <;> exact xnwO_no (by decide)), fun v hv => nomatch hv⟩ (Nat.le_of_ble_eq_true rfl) (Nat.le_of_ble_eq_true rfl) ?_
  refine a_hp (xCw_up (by decide)) ?_
  refine a_astore_n (i := 3) C dL_law_17 rfl (by decide) ?_
  refine a_loc [(0, .ref 908), (1, .ref 0), (2, .ref 230), (3, .ref 231)] (xsub_cons rfl (xsub_cons rfl (xsub_cons rfl (xsub_cons rfl (xsub_nil))))) ?_
  refine a_bipush (v := 24) C dL_law_18 (by decide) ?_
  refine a_newa C 232 0 (ty := .int) (N := 24) (f := .inl (fun _ => 0)) dL_law_20 rfl (fun _ => rfl) (fun _ z => FieldType.noConfusion z) tb97 (fun _ => rfl) (fun _ => rfl) (by decide) (by decide) (by decide) (by decide) ⟨fun j e _ he => xC0_nr (xup_nr2 (xup_nr2 xnone_nr)) (by decide) j e he, fun q hq => (by simp only [List.mem_cons, List.not_mem_nil, or_false] at hq; rcases hq with rfl | rfl | rfl | rfl <;> exact xnwO_no (by decide)), fun v hv => nomatch hv⟩ (Nat.le_of_ble_eq_true rfl) (Nat.le_of_ble_eq_true rfl) ?_
  refine a_hp (xCw_up (by decide)) ?_
  refine a_astore (i := 4) C dL_law_22 (by decide) ?_
  refine a_loc [(0, .ref 908), (1, .ref 0), (2, .ref 230), (3, .ref 231), (4, .ref 232)] (xsub_cons rfl (xsub_cons rfl (xsub_cons rfl (xsub_cons rfl (xsub_cons rfl (xsub_nil)))))) ?_
  refine a_bipush (v := 24) C dL_law_24 (by decide) ?_
  refine a_newa C 233 0 (ty := .int) (N := 24) (f := .inl (fun _ => 0)) dL_law_26 rfl (fun _ => rfl) (fun _ z => FieldType.noConfusion z) tb97 (fun _ => rfl) (fun _ => rfl) (by decide) (by decide) (by decide) (by decide) ⟨fun j e _ he => xC0_nr (xup_nr2 (xup_nr2 (xup_nr2 xnone_nr))) (by decide) j e he, fun q hq => (by simp only [List.mem_cons, List.not_mem_nil, or_false] at hq; rcases hq with rfl | rfl | rfl | rfl | rfl <;> exact xnwO_no (by decide)), fun v hv => nomatch hv⟩ (Nat.le_of_ble_eq_true rfl) (Nat.le_of_ble_eq_true rfl) ?_
  refine a_hp (xCw_up (by decide)) ?_
  refine a_astore (i := 5) C dL_law_28 (by decide) ?_
  refine a_loc [(0, .ref 908), (1, .ref 0), (2, .ref 230), (3, .ref 231), (4, .ref 232), (5, .ref 233)] (xsub_cons rfl (xsub_cons rfl (xsub_cons rfl (xsub_cons rfl (xsub_cons rfl (xsub_cons rfl (xsub_nil))))))) ?_
  refine a_bipush (v := 6) C dL_law_30 (by decide) ?_
  refine a_newa C 234 0 (ty := .int) (N := 6) (f := .inl (fun _ => 0)) dL_law_32 rfl (fun _ => rfl) (fun _ z => FieldType.noConfusion z) tb97 (fun _ => rfl) (fun _ => rfl) (by decide) (by decide) (by decide) (by decide) ⟨fun j e _ he => xC0_nr (xup_nr2 (xup_nr2 (xup_nr2 (xup_nr2 xnone_nr)))) (by decide) j e he, fun q hq => (by simp only [List.mem_cons, List.not_mem_nil, or_false] at hq; rcases hq with rfl | rfl | rfl | rfl | rfl | rfl <;> exact xnwO_no (by decide)), fun v hv => nomatch hv⟩ (Nat.le_of_ble_eq_true rfl) (Nat.le_of_ble_eq_true rfl) ?_
  refine a_hp (xCw_up (by decide)) ?_
  refine a_astore (i := 6) C dL_law_34 (by decide) ?_
  refine a_loc [(0, .ref 908), (1, .ref 0), (2, .ref 230), (3, .ref 231), (4, .ref 232), (5, .ref 233), (6, .ref 234)] (xsub_cons rfl (xsub_cons rfl (xsub_cons rfl (xsub_cons rfl (xsub_cons rfl (xsub_cons rfl (xsub_cons rfl (xsub_nil)))))))) ?_
  rw [xw_new]
  refine a_aload_n (i := 1) C dL_law_36 rfl rfl ?_
  refine a_iconst (v := 0) C dL_law_37 (by decide) ?_
  refine a_iconst (v := 0) C dL_law_38 (by decide) ?_
  refine a_sipush (v := 1200) C dL_law_39 (by decide) ?_
  refine a_callSN (na := 4) C hN dL_law_42 ⟨tb160, tb23, tb161, ⟨by decide, by decide, by decide +kernel⟩⟩ tb159 (w_customer hflags xBs_w LSt_z.1 (by omega)) rfl rfl (Nat.le_of_ble_eq_true rfl) ⟨Nat.le_of_ble_eq_true rfl, Nat.le_of_ble_eq_true rfl⟩ ⟨Nat.le_of_ble_eq_true rfl, Nat.le_of_ble_eq_true rfl⟩ (fun j h => xnwB_lt h) ⟨fun q hq j hj => (by simp only [List.mem_cons, List.not_mem_nil, or_false] at hq; rcases hq with rfl | rfl | rfl | rfl | rfl | rfl | rfl <;> first | exact Value.noConfusion hj | exact xnwB_law (by decide) (Value.ref.inj hj)), fun v hv => nomatch hv⟩ (fun r42 hp42 hq42 => ?_)
  rw [e1] at hq42
  obtain ⟨rfl, jc42, jr42, rfl⟩ := pP_okT hq42 e2
  refine a_lconst (v := 0) C dL_law_45 (by decide) ?_
  refine a_lcmp C dL_law_46 ?_
  refine a_if_ne (tgt := 68) C dL_law_47 (by decide) (fun c47 => ?_) (fun c47 => ?_)
  · exact absurd (lcmp_eq.mpr x64_0) c47
  · refine a_aload_n (i := 1) C dL_law_50 rfl rfl ?_
    refine a_iconst (v := 1) C dL_law_51 (by decide) ?_
    refine a_iconst (v := 2) C dL_law_52 (by decide) ?_
    refine a_sipush (v := 3000) C dL_law_53 (by decide) ?_
    refine a_callSN (na := 4) C hN dL_law_56 ⟨tb160, tb23, tb161, ⟨by decide, by decide, by decide +kernel⟩⟩ tb159 (w_customer hflags xBs_w s1.1 (by omega)) rfl rfl (Nat.le_of_ble_eq_true rfl) ⟨Nat.le_of_ble_eq_true rfl, Nat.le_of_ble_eq_true rfl⟩ ⟨Nat.le_of_ble_eq_true rfl, Nat.le_of_ble_eq_true rfl⟩ (fun j h => xnwB_lt h) ⟨fun q hq j hj => (by simp only [List.mem_cons, List.not_mem_nil, or_false] at hq; rcases hq with rfl | rfl | rfl | rfl | rfl | rfl | rfl <;> first | exact Value.noConfusion hj | exact xnwB_law (by decide) (Value.ref.inj hj)), fun v hv => nomatch hv⟩ (fun r56 hp56 hq56 => ?_)
    rw [e3] at hq56
    obtain ⟨rfl, jc56, jr56, rfl⟩ := pP_okT hq56 e4
    refine a_lconst (v := 1) C dL_law_59 (by decide) ?_
    refine a_lcmp C dL_law_60 ?_
    refine a_if_ne (tgt := 68) C dL_law_61 (by decide) (fun c61 => ?_) (fun c61 => ?_)
    · exact absurd (lcmp_eq.mpr x64_1) c61
    · refine a_iconst (v := 1) C dL_law_64 (by decide) ?_
      refine a_goto (tgt := 69) C dL_law_65 (by decide) ?_
      refine a_istore (i := 7) C dL_law_69 (by decide) ?_
      refine a_aload (i := 6) C dL_law_71 rfl ?_
      refine a_iconst (v := 1) C dL_law_73 (by decide) ?_
      refine a_top (nI 1) rfl ?_
      refine a_iconst (v := 1) C dL_law_74 (by decide) ?_
      refine a_iastI C dL_law_75 (xC_L rfl (by decide)) ⟨by decide, by decide⟩ ?_
      refine a_hp xw_R ?_
      refine a_iconst (v := 0) C dL_law_76 (by decide) ?_
      refine a_istore (i := 8) C dL_law_77 (by decide) ?_
      refine a_loc [(0, .ref 908), (1, .ref 0), (2, .ref 230), (3, .ref 231), (4, .ref 232), (5, .ref 233), (6, .ref 234), (7, .int 1), (8, .int (nI 0))] (xsub_cons rfl (xsub_cons rfl (xsub_cons rfl (xsub_cons rfl (xsub_cons rfl (xsub_cons rfl (xsub_cons rfl (xsub_cons rfl (xsub_cons rfl (xsub_nil)))))))))) ?_
      exact law_loop hflags C hN hX hLn hfin 65 0 (by omega) (by omega) _ _ _ _ _ _ _ _ _ _ _ _ _ _ _ _ s2 (by omega) (Nat.le_of_ble_eq_true rfl) (Nat.le_of_ble_eq_true rfl)
