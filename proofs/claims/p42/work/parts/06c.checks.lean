/-! checks, lists -/
theorem xin_lt {w : Int32} {c : Nat} (hc : c < 2 ^ 31) : (0 ≤ w ∧ w < nI c) ↔ xin w c := by
  unfold xin
  rw [Int32.le_iff_toInt_le, Int32.lt_iff_toInt_lt, nI_toInt (by omega)]
  exact Iff.rfl
theorem xup_uu {hp : xH} {a : Nat} {e e' : va_E} : xup (xup hp a e) a e' = xup hp a e' := by
  funext j
  by_cases h : j = a
  · subst h; rw [xup_s, xup_s]
  · rw [xup_n h, xup_n h, xup_n h]
theorem xup_id {hp : xH} {a : Nat} {e : va_E} (h : hp a = some e) : xup hp a e = hp := by
  funext j
  by_cases hj : j = a
  · subst hj; rw [xup_s, h]
  · rw [xup_n hj]
set_option maxRecDepth 100000 in
set_option maxHeartbeats 4000000 in
theorem m_X6_requireIndex {l : Launch} {N0 : Nat} {D : va_G} {dT : Nat → ClassId} (hflags : l.stackTraces = false) {hp : xH} {w : Int32} {c : Nat} (hc : c < 2 ^ 31)  : xMet l N0 D dT yX6_requireIndex cX6_requireIndex 2 none 7 1 6 [.int w, .int (nI c)] (hp) xNo (fun r h => r = none ∧ h = hp ∧ xin w c) fun x h => x = "java/lang/IndexOutOfBoundsException" ∧ h = hp ∧ ¬ xin w c := by
  refine xMet_of hflags (by decide +kernel) (fun _ _ h => h) (Nat.le_of_ble_eq_true rfl) ?_
  intro E C I hret hthr
  refine a_loc [(0, .int w), (1, .int (nI c))] (xsub_cons rfl (xsub_cons rfl (xsub_nil))) ?_
  refine a_iload_n (i := 0) C dX6_requireIndex_0 rfl rfl ?_
  refine a_if_lt (tgt := 9) C dX6_requireIndex_1 (by decide) (fun c1 => ?_) (fun c1 => ?_)
  · exact a_throwW C (cls := "java/lang/IndexOutOfBoundsException") (names := ["java/lang/RuntimeException", "java/lang/Exception"]) (sn := 904) xth_255.1 xth_n tb356 tb40 (fun ad U h => h.1.2.2.1) xth_255.2.1 xth_255.2.2 dX6_requireIndex_9 dX6_requireIndex_12 dX6_requireIndex_13 dX6_requireIndex_16 dX6_requireIndex_19 (by decide) (by decide) (Nat.le_of_ble_eq_true rfl) (Nat.le_of_ble_eq_true rfl) (hthr _ _ ⟨rfl, rfl, (by first | exact fun z => absurd ((xin_lt hc).mpr z).1 (Int32.not_le.mpr c1) | exact fun z => c6 ((xin_lt hc).mpr z).2)⟩)
  · refine a_iload_n (i := 0) C dX6_requireIndex_4 rfl rfl ?_
    refine a_iload_n (i := 1) C dX6_requireIndex_5 rfl rfl ?_
    refine a_icmp_lt (tgt := 20) C dX6_requireIndex_6 (by decide) (fun c6 => ?_) (fun c6 => ?_)
    · exact a_vret C dX6_requireIndex_20 (Nat.le_of_ble_eq_true rfl) (Nat.le_of_ble_eq_true rfl) (hret _ _ ⟨rfl, rfl, (xin_lt hc).mp ⟨Int32.not_lt.mp c1, c6⟩⟩)
    · exact a_throwW C (cls := "java/lang/IndexOutOfBoundsException") (names := ["java/lang/RuntimeException", "java/lang/Exception"]) (sn := 904) xth_255.1 xth_n tb356 tb40 (fun ad U h => h.1.2.2.1) xth_255.2.1 xth_255.2.2 dX6_requireIndex_9 dX6_requireIndex_12 dX6_requireIndex_13 dX6_requireIndex_16 dX6_requireIndex_19 (by decide) (by decide) (Nat.le_of_ble_eq_true rfl) (Nat.le_of_ble_eq_true rfl) (hthr _ _ ⟨rfl, rfl, (by first | exact fun z => absurd ((xin_lt hc).mpr z).1 (Int32.not_le.mpr c1) | exact fun z => c6 ((xin_lt hc).mpr z).2)⟩)
set_option maxRecDepth 100000 in
set_option maxHeartbeats 4000000 in
theorem m_X6_requireRange {l : Launch} {N0 : Nat} {D : va_G} {dT : Nat → ClassId} (hflags : l.stackTraces = false) {hp : xH} {v a b : Int32}  : xMet l N0 D dT yX6_requireRange cX6_requireRange 3 none 7 1 6 [.int v, .int a, .int b] (hp) xNo (fun r h => r = none ∧ h = hp ∧ (a ≤ v ∧ v ≤ b)) fun x h => x = "java/lang/IllegalArgumentException" ∧ h = hp ∧ ¬ (a ≤ v ∧ v ≤ b) := by
  refine xMet_of hflags (by decide +kernel) (fun _ _ h => h) (Nat.le_of_ble_eq_true rfl) ?_
  intro E C I hret hthr
  refine a_loc [(0, .int v), (1, .int a), (2, .int b)] (xsub_cons rfl (xsub_cons rfl (xsub_cons rfl (xsub_nil)))) ?_
  refine a_iload_n (i := 0) C dX6_requireRange_0 rfl rfl ?_
  refine a_iload_n (i := 1) C dX6_requireRange_1 rfl rfl ?_
  refine a_icmp_lt (tgt := 10) C dX6_requireRange_2 (by decide) (fun c2 => ?_) (fun c2 => ?_)
  · exact a_throwW C (cls := "java/lang/IllegalArgumentException") (names := ["java/lang/RuntimeException", "java/lang/Exception"]) (sn := 902) xth_262.1 xth_n tb171 tb33 (fun ad U h => h.1.1) xth_262.2.1 xth_262.2.2 dX6_requireRange_10 dX6_requireRange_13 dX6_requireRange_14 dX6_requireRange_17 dX6_requireRange_20 (by decide) (by decide) (Nat.le_of_ble_eq_true rfl) (Nat.le_of_ble_eq_true rfl) (hthr _ _ ⟨rfl, rfl, (by first | exact fun z => absurd z.1 (Int32.not_le.mpr c2) | exact fun z => c7 z.2)⟩)
  · refine a_iload_n (i := 0) C dX6_requireRange_5 rfl rfl ?_
    refine a_iload_n (i := 2) C dX6_requireRange_6 rfl rfl ?_
    refine a_icmp_le (tgt := 21) C dX6_requireRange_7 (by decide) (fun c7 => ?_) (fun c7 => ?_)
    · exact a_vret C dX6_requireRange_21 (Nat.le_of_ble_eq_true rfl) (Nat.le_of_ble_eq_true rfl) (hret _ _ ⟨rfl, rfl, Int32.not_lt.mp c2, c7⟩)
    · exact a_throwW C (cls := "java/lang/IllegalArgumentException") (names := ["java/lang/RuntimeException", "java/lang/Exception"]) (sn := 902) xth_262.1 xth_n tb171 tb33 (fun ad U h => h.1.1) xth_262.2.1 xth_262.2.2 dX6_requireRange_10 dX6_requireRange_13 dX6_requireRange_14 dX6_requireRange_17 dX6_requireRange_20 (by decide) (by decide) (Nat.le_of_ble_eq_true rfl) (Nat.le_of_ble_eq_true rfl) (hthr _ _ ⟨rfl, rfl, (by first | exact fun z => absurd z.1 (Int32.not_le.mpr c2) | exact fun z => c7 z.2)⟩)
set_option maxRecDepth 100000 in
set_option maxHeartbeats 4000000 in
theorem m_X6_requireCent {l : Launch} {N0 : Nat} {D : va_G} {dT : Nat → ClassId} (hflags : l.stackTraces = false) {hp : xH} {a : Int32}  : xMet l N0 D dT yX6_requireCent cX6_requireCent 1 none 7 1 6 [.int a] (hp) xNo (fun r h => r = none ∧ h = hp ∧ ¬ a < 1) fun x h => x = "java/lang/IllegalArgumentException" ∧ h = hp ∧ a < 1 := by
  refine xMet_of hflags (by decide +kernel) (fun _ _ h => h) (Nat.le_of_ble_eq_true rfl) ?_
  intro E C I hret hthr
  refine a_loc [(0, .int a)] (xsub_cons rfl (xsub_nil)) ?_
  refine a_iload_n (i := 0) C dX6_requireCent_0 rfl rfl ?_
  refine a_iconst (v := 1) C dX6_requireCent_1 (by decide) ?_
  refine a_icmp_ge (tgt := 16) C dX6_requireCent_2 (by decide) (fun c2 => ?_) (fun c2 => ?_)
  · exact a_vret C dX6_requireCent_16 (Nat.le_of_ble_eq_true rfl) (Nat.le_of_ble_eq_true rfl) (hret _ _ ⟨rfl, rfl, Int32.not_lt.mpr c2⟩)
  · exact a_throwW C (cls := "java/lang/IllegalArgumentException") (names := ["java/lang/RuntimeException", "java/lang/Exception"]) (sn := 906) xth_262.1 xth_n tb171 tb33 (fun ad U h => h.1.2.2.2.2) xth_262.2.1 xth_262.2.2 dX6_requireCent_5 dX6_requireCent_8 dX6_requireCent_9 dX6_requireCent_12 dX6_requireCent_15 (by decide) (by decide) (Nat.le_of_ble_eq_true rfl) (Nat.le_of_ble_eq_true rfl) (hthr _ _ ⟨rfl, rfl, Int32.not_le.mp c2⟩)
set_option maxRecDepth 100000 in
set_option maxHeartbeats 4000000 in
theorem m_X6_requireRoom {l : Launch} {N0 : Nat} {D : va_G} {dT : Nat → ClassId} (hflags : l.stackTraces = false) {hp : xH} {u v : Int32}  : xMet l N0 D dT yX6_requireRoom cX6_requireRoom 2 none 7 1 6 [.int u, .int v] (hp) xNo (fun r h => r = none ∧ h = hp ∧ u < v) fun x h => x = "java/lang/IllegalStateException" ∧ h = hp ∧ ¬ u < v := by
  refine xMet_of hflags (by decide +kernel) (fun _ _ h => h) (Nat.le_of_ble_eq_true rfl) ?_
  intro E C I hret hthr
  refine a_loc [(0, .int u), (1, .int v)] (xsub_cons rfl (xsub_cons rfl (xsub_nil))) ?_
  refine a_iload_n (i := 0) C dX6_requireRoom_0 rfl rfl ?_
  refine a_iload_n (i := 1) C dX6_requireRoom_1 rfl rfl ?_
  refine a_icmp_lt (tgt := 16) C dX6_requireRoom_2 (by decide) (fun c2 => ?_) (fun c2 => ?_)
  · exact a_vret C dX6_requireRoom_16 (Nat.le_of_ble_eq_true rfl) (Nat.le_of_ble_eq_true rfl) (hret _ _ ⟨rfl, rfl, c2⟩)
  · exact a_throwW C (cls := "java/lang/IllegalStateException") (names := ["java/lang/RuntimeException", "java/lang/Exception"]) (sn := 903) xth_269.1 xth_n tb242 tb34 (fun ad U h => h.1.2.1) xth_269.2.1 xth_269.2.2 dX6_requireRoom_5 dX6_requireRoom_8 dX6_requireRoom_9 dX6_requireRoom_12 dX6_requireRoom_15 (by decide) (by decide) (Nat.le_of_ble_eq_true rfl) (Nat.le_of_ble_eq_true rfl) (hthr _ _ ⟨rfl, rfl, c2⟩)
set_option maxRecDepth 100000 in
set_option maxHeartbeats 4000000 in
theorem m_X6_requireState1 {l : Launch} {N0 : Nat} {D : va_G} {dT : Nat → ClassId} (hflags : l.stackTraces = false) {hp : xH}  : xMet l N0 D dT yX6_requireState cX6_requireState 1 none 7 0 0 [.int 1] (hp) xNo (fun r h => r = none ∧ h = hp) xNX := by
  refine xMet_of hflags (by decide +kernel) (fun _ _ h => h) (Nat.le_of_ble_eq_true rfl) ?_
  intro E C I hret hthr
  refine a_loc [(0, .int 1)] (xsub_cons rfl (xsub_nil)) ?_
  refine a_iload_n (i := 0) C dX6_requireState_0 rfl rfl ?_
  refine a_if_ne (tgt := 15) C dX6_requireState_1 (by decide) (fun _ => ?_) (fun z => absurd z (by decide))
  exact a_vret C dX6_requireState_15 (Nat.le_of_ble_eq_true rfl) (Nat.le_of_ble_eq_true rfl) (hret _ _ ⟨rfl, rfl⟩)
set_option maxRecDepth 100000 in
set_option maxHeartbeats 4000000 in
theorem m_X6_requireState0 {l : Launch} {N0 : Nat} {D : va_G} {dT : Nat → ClassId} (hflags : l.stackTraces = false) {hp : xH}  : xMet l N0 D dT yX6_requireState cX6_requireState 1 none 7 1 6 [.int 0] (hp) xNo (fun _ _ => False) fun x h => x = "java/lang/IllegalStateException" ∧ h = hp := by
  refine xMet_of hflags (by decide +kernel) (fun _ _ h => h) (Nat.le_of_ble_eq_true rfl) ?_
  intro E C I hret hthr
  refine a_loc [(0, .int 0)] (xsub_cons rfl (xsub_nil)) ?_
  refine a_iload_n (i := 0) C dX6_requireState_0 rfl rfl ?_
  refine a_if_ne (tgt := 15) C dX6_requireState_1 (by decide) (fun z => absurd rfl z) (fun _ => ?_)
  exact a_throwW C (cls := "java/lang/IllegalStateException") (names := ["java/lang/RuntimeException", "java/lang/Exception"]) (sn := 905) xth_269.1 xth_n tb242 tb34 (fun ad U h => h.1.2.2.2.1) xth_269.2.1 xth_269.2.2 dX6_requireState_4 dX6_requireState_7 dX6_requireState_8 dX6_requireState_11 dX6_requireState_14 (by decide) (by decide) (Nat.le_of_ble_eq_true rfl) (Nat.le_of_ble_eq_true rfl) (hthr _ _ ⟨rfl, rfl⟩)
set_option maxRecDepth 100000 in
set_option maxHeartbeats 4000000 in
theorem m_J3_checkIndex_8e157 {l : Launch} {N0 : Nat} {D : va_G} {dT : Nat → ClassId} (hflags : l.stackTraces = false) {hp : xH} {i c : Nat} (hi : i < c) (hc : c < 2 ^ 31)  : xMet l N0 D dT yJ3_checkIndex_8e157 cJ3_checkIndex_8e157 3 (some FieldType.int) 1 0 0 [.int (nI i), .int (nI c), .null] (hp) xNo (fun r h => r = some (.int (nI i)) ∧ h = hp) xNX := by
  refine xMet_of hflags (by decide +kernel) (fun _ _ h => h) (Nat.le_of_ble_eq_true rfl) ?_
  intro E C I hret hthr
  refine a_loc [(0, .int (nI i)), (1, .int (nI c)), (2, .null)] (xsub_cons rfl (xsub_cons rfl (xsub_cons rfl (xsub_nil)))) ?_
  refine a_iload_n (i := 0) C dJ3_checkIndex_8e157_0 rfl rfl ?_
  refine a_if_lt (tgt := 9) C dJ3_checkIndex_8e157_1 (by decide) (fun c1 => ?_) (fun c1 => ?_)
  · exact absurd c1 (Int32.not_lt.mpr ((xin_lt (by omega)).mpr (xin_of hi hc)).1)
  · refine a_iload_n (i := 0) C dJ3_checkIndex_8e157_4 rfl rfl ?_
    refine a_iload_n (i := 1) C dJ3_checkIndex_8e157_5 rfl rfl ?_
    refine a_icmp_lt (tgt := 16) C dJ3_checkIndex_8e157_6 (by decide) (fun c6 => ?_) (fun c6 => ?_)
    · refine a_iload_n (i := 0) C dJ3_checkIndex_8e157_16 rfl rfl ?_
      exact a_iret C dJ3_checkIndex_8e157_17 (Nat.le_of_ble_eq_true rfl) (Nat.le_of_ble_eq_true rfl) (hret _ _ ⟨rfl, rfl⟩)
    · exact absurd ((xin_lt hc).mpr (xin_of hi hc)).2 c6
set_option maxRecDepth 100000 in
set_option maxHeartbeats 4000000 in
theorem m_J15_checkIndex_7cf53 {l : Launch} {N0 : Nat} {D : va_G} {dT : Nat → ClassId} (hflags : l.stackTraces = false) {hp : xH} {i c : Nat} (hi : i < c) (hc : c < 2 ^ 31)  : xMet l N0 D dT yJ15_checkIndex_7cf53 cJ15_checkIndex_7cf53 2 (some FieldType.int) 2 0 0 [.int (nI i), .int (nI c)] (hp) xNo (fun r h => r = some (.int (nI i)) ∧ h = hp) xNX := by
  refine xMet_of hflags (by decide +kernel) (fun _ _ h => h) (Nat.le_of_ble_eq_true rfl) ?_
  intro E C I hret hthr
  refine a_loc [(0, .int (nI i)), (1, .int (nI c))] (xsub_cons rfl (xsub_cons rfl (xsub_nil))) ?_
  refine a_iload_n (i := 0) C dJ15_checkIndex_7cf53_0 rfl rfl ?_
  refine a_iload_n (i := 1) C dJ15_checkIndex_7cf53_1 rfl rfl ?_
  refine a_null C dJ15_checkIndex_7cf53_2 ?_
  refine a_callS C dJ15_checkIndex_7cf53_3 cs_J3_checkIndex_8e157 tb379 (m_J3_checkIndex_8e157 hflags hi hc) rfl rfl (Nat.le_of_ble_eq_true rfl) ⟨Nat.le_of_ble_eq_true rfl, Nat.le_of_ble_eq_true rfl⟩ ⟨Nat.le_of_ble_eq_true rfl, Nat.le_of_ble_eq_true rfl⟩ (fun _ h => h.elim) xav_no (fun _ _ h => h.elim) (fun r3 hp3 hq3 => ?_)
  obtain ⟨rfl, rfl⟩ := hq3
  exact a_iret C dJ15_checkIndex_7cf53_6 (Nat.le_of_ble_eq_true rfl) (Nat.le_of_ble_eq_true rfl) (hret _ _ ⟨rfl, rfl⟩)
set_option maxRecDepth 100000 in
set_option maxHeartbeats 4000000 in
theorem m_Jx4a65c_size_8abf5 {l : Launch} {N0 : Nat} {D : va_G} {dT : Nat → ClassId} (hflags : l.stackTraces = false) {hp : xH} {a d sz : Nat} {m0 : Int32} (h1 : hp a = some (.inr (0, [.int m0, .ref d, .int (nI sz)])))  : xMet l N0 D dT yJx4a65c_size_8abf5 cJx4a65c_size_8abf5 1 (some FieldType.int) 1 0 0 [.ref a] (hp) xNo (fun r h => r = some (.int (nI sz)) ∧ h = hp) xNX := by
  refine xMet_of hflags (by decide +kernel) (fun _ _ h => h) (Nat.le_of_ble_eq_true rfl) ?_
  intro E C I hret hthr
  refine a_loc [(0, .ref a)] (xsub_cons rfl (xsub_nil)) ?_
  refine a_aload_n (i := 0) C dJx4a65c_size_8abf5_0 rfl rfl ?_
  refine a_get C dJx4a65c_size_8abf5_1 fl_Jx4a65c_48 h1 rfl ?_
  exact a_iret C dJx4a65c_size_8abf5_4 (Nat.le_of_ble_eq_true rfl) (Nat.le_of_ble_eq_true rfl) (hret _ _ ⟨rfl, rfl⟩)
set_option maxRecDepth 100000 in
set_option maxHeartbeats 4000000 in
theorem m_Jx4a65c_elementData_915e3 {l : Launch} {N0 : Nat} {D : va_G} {dT : Nat → ClassId} (hflags : l.stackTraces = false) {hp : xH} {a d sz N : Nat} {m0 : Int32} {F : Nat → Option Nat} {i q : Nat} (h1 : hp a = some (.inr (0, [.int m0, .ref d, .int (nI sz)]))) (h2 : hp d = some (.inl (3, N, .inr (.inr (.inr (.inr F)))))) (h3 : i < N) (h4 : N < 2 ^ 31) (h5 : F i = some q)  : xMet l N0 D dT yJx4a65c_elementData_915e3 cJx4a65c_elementData_915e3 2 (some (FieldType.object "java/lang/Object")) 1 0 0 [.ref a, .int (nI i)] (hp) xNo (fun r h => r = some (.ref q) ∧ h = hp) xNX := by
  refine xMet_of hflags (by decide +kernel) (fun _ _ h => h) (Nat.le_of_ble_eq_true rfl) ?_
  intro E C I hret hthr
  refine a_loc [(0, .ref a), (1, .int (nI i))] (xsub_cons rfl (xsub_cons rfl (xsub_nil))) ?_
  refine a_aload_n (i := 0) C dJx4a65c_elementData_915e3_0 rfl rfl ?_
  refine a_get C dJx4a65c_elementData_915e3_1 fl_Jx4a65c_9 h1 rfl ?_
  refine a_iload_n (i := 1) C dJx4a65c_elementData_915e3_4 rfl rfl ?_
  refine a_aaldI C dJx4a65c_elementData_915e3_5 h2 ⟨h3, h4⟩ h5 ?_
  exact a_aret C dJx4a65c_elementData_915e3_6 (by first | exact Or.inl ⟨_, rfl⟩ | exact Or.inr ⟨_, rfl⟩) (Nat.le_of_ble_eq_true rfl) (Nat.le_of_ble_eq_true rfl) (hret _ _ ⟨rfl, rfl⟩)
set_option maxRecDepth 100000 in
set_option maxHeartbeats 4000000 in
theorem m_Jx4a65c_get_915e3 {l : Launch} {N0 : Nat} {D : va_G} {dT : Nat → ClassId} (hflags : l.stackTraces = false) {hp : xH} {a d sz N : Nat} {m0 : Int32} {F : Nat → Option Nat} {i q : Nat} (h1 : hp a = some (.inr (0, [.int m0, .ref d, .int (nI sz)]))) (h2 : hp d = some (.inl (3, N, .inr (.inr (.inr (.inr F)))))) (h3 : i < sz) (hs : sz ≤ N) (h4 : N < 2 ^ 31) (h5 : F i = some q)  : xMet l N0 D dT yJx4a65c_get_915e3 cJx4a65c_get_915e3 2 (some (FieldType.object "java/lang/Object")) 3 0 0 [.ref a, .int (nI i)] (hp) xNo (fun r h => r = some (.ref q) ∧ h = hp) xNX := by
  refine xMet_of hflags (by decide +kernel) (fun _ _ h => h) (Nat.le_of_ble_eq_true rfl) ?_
  intro E C I hret hthr
  refine a_loc [(0, .ref a), (1, .int (nI i))] (xsub_cons rfl (xsub_cons rfl (xsub_nil))) ?_
  refine a_iload_n (i := 1) C dJx4a65c_get_915e3_0 rfl rfl ?_
  refine a_aload_n (i := 0) C dJx4a65c_get_915e3_1 rfl rfl ?_
  refine a_get C dJx4a65c_get_915e3_2 fl_Jx4a65c_48 h1 rfl ?_
  refine a_callS C dJx4a65c_get_915e3_5 cs_J15_checkIndex_7cf53 tb376 (m_J15_checkIndex_7cf53 hflags h3 (by omega)) rfl rfl (Nat.le_of_ble_eq_true rfl) ⟨Nat.le_of_ble_eq_true rfl, Nat.le_of_ble_eq_true rfl⟩ ⟨Nat.le_of_ble_eq_true rfl, Nat.le_of_ble_eq_true rfl⟩ (fun _ h => h.elim) xav_no (fun _ _ h => h.elim) (fun r5 hp5 hq5 => ?_)
  obtain ⟨rfl, rfl⟩ := hq5
  refine a_pop C dJx4a65c_get_915e3_8 rfl ?_
  refine a_aload_n (i := 0) C dJx4a65c_get_915e3_9 rfl rfl ?_
  refine a_iload_n (i := 1) C dJx4a65c_get_915e3_10 rfl rfl ?_
  refine a_callV C dJx4a65c_get_915e3_11 cv_Jx4a65c_elementData_915e3 tb382 (m_Jx4a65c_elementData_915e3 hflags h1 h2 (by omega) h4 h5) rfl rfl h1 rfl (Nat.le_of_ble_eq_true rfl) ⟨Nat.le_of_ble_eq_true rfl, Nat.le_of_ble_eq_true rfl⟩ ⟨Nat.le_of_ble_eq_true rfl, Nat.le_of_ble_eq_true rfl⟩ (fun _ h => h.elim) xav_no (fun _ _ h => h.elim) (fun r11 hp11 hq11 => ?_)
  obtain ⟨rfl, rfl⟩ := hq11
  exact a_aret C dJx4a65c_get_915e3_14 (by first | exact Or.inl ⟨_, rfl⟩ | exact Or.inr ⟨_, rfl⟩) (Nat.le_of_ble_eq_true rfl) (Nat.le_of_ble_eq_true rfl) (hret _ _ ⟨rfl, rfl⟩)
set_option maxRecDepth 100000 in
set_option maxHeartbeats 4000000 in
theorem m_J7_fill_53178 {l : Launch} {N0 : Nat} {D : va_G} {dT : Nat → ClassId} (hflags : l.stackTraces = false) {hp : xH} {a N : Nat} {v : Int32} {F : Nat → Int32} (h1 : hp a = some (.inl (0, N, .inl F))) (hN : N < 2 ^ 31)  : xMet l N0 D dT yJ7_fill_53178 cJ7_fill_53178 4 none 1 0 0 [.ref a, .int v] (hp) xNo (fun r h => r = none ∧ h = xup hp a (.inl (0, N, .inl (xpre (fun _ => v) F N)))) xNX := by
  refine xMet_of hflags (by decide +kernel) (fun _ _ h => h) (Nat.le_of_ble_eq_true rfl) ?_
  intro E C I hret hthr
  refine a_loc [(0, .ref a), (1, .int v)] (xsub_cons rfl (xsub_cons rfl (xsub_nil))) ?_
  have loop : ∀ (k i : Nat), i ≤ N → N < i + k → aW E 0 0 (xup hp a (.inl (0, N, .inl (xpre (fun _ => v) F i)))) 5 [(0, .ref a), (1, .int v), (2, .int (nI i)), (3, .int (nI N))] [] := by
    intro k
    induction k with
    | zero => intro i h1 h2; exact absurd h2 (by omega)
    | succ k ih =>
      intro i h8 h9
      refine a_iload_n (i := 2) C dJ7_fill_53178_5 rfl rfl ?_
      refine a_iload_n (i := 3) C dJ7_fill_53178_6 rfl rfl ?_
      refine a_icmp_ge (tgt := 20) C dJ7_fill_53178_7 (by decide) (fun c7 => ?_) (fun c7 => ?_)
      · have hie : i = N := by
          have := (xle (by omega) (by omega)).mp c7
          omega
        rw [hie]
        exact a_vret C dJ7_fill_53178_20 (Nat.le_of_ble_eq_true rfl) (Nat.le_of_ble_eq_true rfl) (hret _ _ ⟨rfl, rfl⟩)
      · have hlt : i < N := by
          rcases Nat.lt_or_ge i N with q | q
          · exact q
          · exact absurd ((xle (by omega) (by omega)).mpr q) c7
        refine a_aload_n (i := 0) C dJ7_fill_53178_10 rfl rfl ?_
        refine a_iload_n (i := 2) C dJ7_fill_53178_11 rfl rfl ?_
        refine a_iload_n (i := 1) C dJ7_fill_53178_12 rfl rfl ?_
        refine a_iastI C dJ7_fill_53178_13 xup_s ⟨hlt, hN⟩ ?_
        refine a_hp (show _ = xup hp a (.inl (0, N, .inl (xpre (fun _ => v) F (i + 1)))) by rw [xup_uu]; exact congrArg (fun z => xup hp a (.inl (0, N, .inl z))) (xpre_s (t := fun _ => v))) ?_
        refine a_iinc (i := 2) (v := nI (i + 1)) C dJ7_fill_53178_14 rfl (nI_1 i) (by decide) ?_
        refine a_goto (tgt := 5) C dJ7_fill_53178_17 (by decide) ?_
        refine a_loc _ ?_ (ih (i + 1) (by omega) (by omega))
        exact xsub_cons rfl (xsub_cons rfl (xsub_cons rfl (xsub_cons rfl (xsub_nil))))
  refine a_iconst (v := 0) C dJ7_fill_53178_0 (by decide) ?_
  refine a_istore_n (i := 2) C dJ7_fill_53178_1 rfl (by decide) ?_
  refine a_aload_n (i := 0) C dJ7_fill_53178_2 rfl rfl ?_
  refine a_alen C dJ7_fill_53178_3 (by decide) h1 ?_
  refine a_istore_n (i := 3) C dJ7_fill_53178_4 rfl (by decide) ?_
  refine a_hp (show hp = xup hp a (.inl (0, N, .inl (xpre (fun _ => v) F 0))) by rw [xpre_0, xup_id h1]) ?_
  refine a_loc _ ?_ (loop (N + 1) 0 (Nat.zero_le _) (by omega))
  exact xsub_cons rfl (xsub_cons rfl (xsub_cons rfl (xsub_cons rfl (xsub_nil))))
