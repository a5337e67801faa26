set_option maxHeartbeats 4000000 in
set_option maxRecDepth 100000 in
theorem kX7_within {n : Nat} {sh : Nat → cv_Sh} (v lo hi : Int32) (μ : cv_St)  : cv_Ct yX7_within cX7_within 3 (some .boolean) 0 0 0 n sh [.int v, .int lo, .int hi] μ (cv_pu (.int (cv_b (decide (lo ≤ v ∧ v ≤ hi)))) μ) := by
  refine cv_enter (own := RX7) (by decide) rfl (Nat.le_of_ble_eq_true rfl) ?_
  intro X a C Rt hRm
  have D := @cv_dec _ _ dkX7_within
  show cv_At X _ _ μ 0 [(0, .int v), (1, .int lo), (2, .int hi)] []
  refine cv_iload_n C (pc' := 1) rfl (D 0 (0, .iload_n 0, 1) rfl) rfl (j := 0) rfl ?_
  refine cv_iload_n C (pc' := 2) rfl (D 1 (1, .iload_n 1, 1) rfl) rfl (j := 1) rfl ?_
  refine cv_icmp_lt C (pc' := 5) rfl (tgt := 14) (D 2 (2, .if_icmp .lt 12, 3) rfl) (by decide) (fun b2 => ?_) (fun b2 => ?_)
  · skip
    refine cv_iconst C (pc' := 15) rfl (D 8 (14, .iconst 0, 1) rfl) (v := nI 0) (by decide) ?_
    exact cv_iret C Rt (by decide) (D 9 (15, .ireturn, 1) rfl) ⟨congrArg (fun z => some (Value.int z)) (by rw [decide_eq_false (fun h => Int32.not_lt.mpr h.1 b2)]; rfl), rfl⟩
  · skip
    refine cv_iload_n C (pc' := 6) rfl (D 3 (5, .iload_n 0, 1) rfl) rfl (j := 0) rfl ?_
    refine cv_iload_n C (pc' := 7) rfl (D 4 (6, .iload_n 2, 1) rfl) rfl (j := 2) rfl ?_
    refine cv_icmp_gt C (pc' := 10) rfl (tgt := 14) (D 5 (7, .if_icmp .gt 7, 3) rfl) (by decide) (fun b7 => ?_) (fun b7 => ?_)
    · skip
      refine cv_iconst C (pc' := 15) rfl (D 8 (14, .iconst 0, 1) rfl) (v := nI 0) (by decide) ?_
      exact cv_iret C Rt (by decide) (D 9 (15, .ireturn, 1) rfl) ⟨congrArg (fun z => some (Value.int z)) (by rw [decide_eq_false (fun h => Int32.not_lt.mpr h.2 b7)]; rfl), rfl⟩
    · skip
      refine cv_iconst C (pc' := 11) rfl (D 6 (10, .iconst 1, 1) rfl) (v := nI 1) (by decide) ?_
      refine cv_goto C (tgt := 15) (D 7 (11, .goto 4, 3) rfl) (by decide) ?_
      exact cv_iret C Rt (by decide) (D 9 (15, .ireturn, 1) rfl) ⟨congrArg (fun z => some (Value.int z)) (by rw [decide_eq_true ⟨Int32.not_lt.mp b2, Int32.not_lt.mp b7⟩]; rfl), rfl⟩

set_option maxHeartbeats 4000000 in
set_option maxRecDepth 100000 in
theorem kX7_isSheet {n : Nat} {sh : Nat → cv_Sh} (v : Int32) (μ : cv_St)  : cv_Ct yX7_isSheet cX7_isSheet 1 (some .boolean) 1 0 0 n sh [.int v] μ (cv_pu (.int (cv_b (cv_in v 4))) μ) := by
  refine cv_enter (own := RX7) (by decide) rfl (Nat.le_of_ble_eq_true rfl) ?_
  intro X a C Rt hRm
  have D := @cv_dec _ _ dkX7_isSheet
  show cv_At X _ _ μ 0 [(0, .int v)] []
  refine cv_iload_n C (pc' := 1) rfl (D 0 (0, .iload_n 0, 1) rfl) rfl (j := 0) rfl ?_
  refine cv_iconst C (pc' := 2) rfl (D 1 (1, .iconst 0, 1) rfl) (v := nI 0) (by decide) ?_
  refine cv_iconst C (pc' := 3) rfl (D 2 (2, .iconst 3, 1) rfl) (v := nI 3) (by decide) ?_
  refine cv_callS C (pc' := 6) rfl (As := [.int v, .int (nI 0), .int (nI 3)]) (rest := []) (idx := 67) (np := 3) (kX7_within v (nI 0) (nI 3) μ) (by decide +kernel) rfl wmX7_67 wt_yX7_within wn_X7 wc_yX7_within (by decide) (by decide) (D 3 (3, .invokestatic 67, 3) rfl) (Nat.le_of_ble_eq_true rfl) rfl (fun w9 u9 h9 => ?_)
  rw [h9.1, h9.2]
  show cv_At X _ _ μ 6 _ [.int (cv_b (decide ((nI 0) ≤ v ∧ v ≤ (nI 3))))]
  exact cv_iret C Rt (cv_b_nar _) (D 4 (6, .ireturn, 1) rfl) ⟨congrArg (fun z => some (Value.int z)) (by rw [cv_in_le (by decide)]), rfl⟩

set_option maxHeartbeats 4000000 in
set_option maxRecDepth 100000 in
theorem kX7_isSort {n : Nat} {sh : Nat → cv_Sh} (v : Int32) (μ : cv_St)  : cv_Ct yX7_isSort cX7_isSort 1 (some .boolean) 1 0 0 n sh [.int v] μ (cv_pu (.int (cv_b (cv_in v 3))) μ) := by
  refine cv_enter (own := RX7) (by decide) rfl (Nat.le_of_ble_eq_true rfl) ?_
  intro X a C Rt hRm
  have D := @cv_dec _ _ dkX7_isSort
  show cv_At X _ _ μ 0 [(0, .int v)] []
  refine cv_iload_n C (pc' := 1) rfl (D 0 (0, .iload_n 0, 1) rfl) rfl (j := 0) rfl ?_
  refine cv_iconst C (pc' := 2) rfl (D 1 (1, .iconst 0, 1) rfl) (v := nI 0) (by decide) ?_
  refine cv_iconst C (pc' := 3) rfl (D 2 (2, .iconst 2, 1) rfl) (v := nI 2) (by decide) ?_
  refine cv_callS C (pc' := 6) rfl (As := [.int v, .int (nI 0), .int (nI 2)]) (rest := []) (idx := 67) (np := 3) (kX7_within v (nI 0) (nI 2) μ) (by decide +kernel) rfl wmX7_67 wt_yX7_within wn_X7 wc_yX7_within (by decide) (by decide) (D 3 (3, .invokestatic 67, 3) rfl) (Nat.le_of_ble_eq_true rfl) rfl (fun w9 u9 h9 => ?_)
  rw [h9.1, h9.2]
  show cv_At X _ _ μ 6 _ [.int (cv_b (decide ((nI 0) ≤ v ∧ v ≤ (nI 2))))]
  exact cv_iret C Rt (cv_b_nar _) (D 4 (6, .ireturn, 1) rfl) ⟨congrArg (fun z => some (Value.int z)) (by rw [cv_in_le (by decide)]), rfl⟩

set_option maxHeartbeats 4000000 in
set_option maxRecDepth 100000 in
theorem kX7_isDay {n : Nat} {sh : Nat → cv_Sh} (v : Int32) (μ : cv_St)  : cv_Ct yX7_isDay cX7_isDay 1 (some .boolean) 1 0 0 n sh [.int v] μ (cv_pu (.int (cv_b (cv_in v 8))) μ) := by
  refine cv_enter (own := RX7) (by decide) rfl (Nat.le_of_ble_eq_true rfl) ?_
  intro X a C Rt hRm
  have D := @cv_dec _ _ dkX7_isDay
  show cv_At X _ _ μ 0 [(0, .int v)] []
  refine cv_iload_n C (pc' := 1) rfl (D 0 (0, .iload_n 0, 1) rfl) rfl (j := 0) rfl ?_
  refine cv_iconst C (pc' := 2) rfl (D 1 (1, .iconst 0, 1) rfl) (v := nI 0) (by decide) ?_
  refine cv_bipush C (pc' := 4) rfl (D 2 (2, .bipush 7, 2) rfl) (v := nI 7) (by decide) ?_
  refine cv_callS C (pc' := 7) rfl (As := [.int v, .int (nI 0), .int (nI 7)]) (rest := []) (idx := 67) (np := 3) (kX7_within v (nI 0) (nI 7) μ) (by decide +kernel) rfl wmX7_67 wt_yX7_within wn_X7 wc_yX7_within (by decide) (by decide) (D 3 (4, .invokestatic 67, 3) rfl) (Nat.le_of_ble_eq_true rfl) rfl (fun w9 u9 h9 => ?_)
  rw [h9.1, h9.2]
  show cv_At X _ _ μ 7 _ [.int (cv_b (decide ((nI 0) ≤ v ∧ v ≤ (nI 7))))]
  exact cv_iret C Rt (cv_b_nar _) (D 4 (7, .ireturn, 1) rfl) ⟨congrArg (fun z => some (Value.int z)) (by rw [cv_in_le (by decide)]), rfl⟩

set_option maxHeartbeats 4000000 in
set_option maxRecDepth 100000 in
theorem kX7_isValley {n : Nat} {sh : Nat → cv_Sh} (v : Int32) (μ : cv_St)  : cv_Ct yX7_isValley cX7_isValley 1 (some .boolean) 1 0 0 n sh [.int v] μ (cv_pu (.int (cv_b (cv_in v 3))) μ) := by
  refine cv_enter (own := RX7) (by decide) rfl (Nat.le_of_ble_eq_true rfl) ?_
  intro X a C Rt hRm
  have D := @cv_dec _ _ dkX7_isValley
  show cv_At X _ _ μ 0 [(0, .int v)] []
  refine cv_iload_n C (pc' := 1) rfl (D 0 (0, .iload_n 0, 1) rfl) rfl (j := 0) rfl ?_
  refine cv_iconst C (pc' := 2) rfl (D 1 (1, .iconst 0, 1) rfl) (v := nI 0) (by decide) ?_
  refine cv_iconst C (pc' := 3) rfl (D 2 (2, .iconst 2, 1) rfl) (v := nI 2) (by decide) ?_
  refine cv_callS C (pc' := 6) rfl (As := [.int v, .int (nI 0), .int (nI 2)]) (rest := []) (idx := 67) (np := 3) (kX7_within v (nI 0) (nI 2) μ) (by decide +kernel) rfl wmX7_67 wt_yX7_within wn_X7 wc_yX7_within (by decide) (by decide) (D 3 (3, .invokestatic 67, 3) rfl) (Nat.le_of_ble_eq_true rfl) rfl (fun w9 u9 h9 => ?_)
  rw [h9.1, h9.2]
  show cv_At X _ _ μ 6 _ [.int (cv_b (decide ((nI 0) ≤ v ∧ v ≤ (nI 2))))]
  exact cv_iret C Rt (cv_b_nar _) (D 4 (6, .ireturn, 1) rfl) ⟨congrArg (fun z => some (Value.int z)) (by rw [cv_in_le (by decide)]), rfl⟩

set_option maxHeartbeats 4000000 in
set_option maxRecDepth 100000 in
theorem kX7_isPass (v : Int32) (L : cv_L) (μ : cv_St) (hL : cv_LM L μ) : cv_Ct yX7_isPass cX7_isPass 2 (some .boolean) 0 0 0 17 cv_shM [.ref 0, .int v] μ (cv_pu (.int (cv_b (cv_in v (L 7 0)))) μ) := by
  refine cv_enter (own := RX7) (by decide) rfl (Nat.le_of_ble_eq_true rfl) ?_
  intro X a C Rt hRm
  have D := @cv_dec _ _ dkX7_isPass
  show cv_At X _ _ μ 0 [(0, .ref 0), (1, .int v)] []
  refine cv_iload_n C (pc' := 1) rfl (D 0 (0, .iload_n 1, 1) rfl) rfl (j := 1) rfl ?_
  refine cv_if_lt C (pc' := 4) rfl (tgt := 16) (D 1 (1, .ifCond .lt 15, 3) rfl) (by decide) (fun b1 => ?_) (fun b1 => ?_)
  · skip
    refine cv_iconst C (pc' := 17) rfl (D 8 (16, .iconst 0, 1) rfl) (v := nI 0) (by decide) ?_
    exact cv_iret C Rt (by decide) (D 9 (17, .ireturn, 1) rfl) ⟨congrArg (fun z => some (Value.int z)) (by rw [cv_in, decide_eq_false (fun h => h.1 b1)]; rfl), rfl⟩
  · skip
    refine cv_iload_n C (pc' := 5) rfl (D 2 (4, .iload_n 1, 1) rfl) rfl (j := 1) rfl ?_
    refine cv_aload_n C (pc' := 6) rfl (D 3 (5, .aload_n 0, 1) rfl) rfl (j := 0) rfl ?_
    refine cv_get C (pc' := 9) rfl (k0 := 0) (i := 5) (ci := 7) (by decide) rfl rfl (by decide) (o := none) rfl iw_X7 wfX7_71 (D 4 (6, .getfield 71, 3) rfl) (v := .int (nI (L 7 0))) (congrArg Value.int hL.1) ?_
    refine cv_icmp_ge C (pc' := 12) rfl (tgt := 16) (D 5 (9, .if_icmp .ge 7, 3) rfl) (by decide) (fun b9 => ?_) (fun b9 => ?_)
    · skip
      refine cv_iconst C (pc' := 17) rfl (D 8 (16, .iconst 0, 1) rfl) (v := nI 0) (by decide) ?_
      exact cv_iret C Rt (by decide) (D 9 (17, .ireturn, 1) rfl) ⟨congrArg (fun z => some (Value.int z)) (by rw [cv_in, decide_eq_false (fun h => Int32.not_lt.mpr b9 h.2)]; rfl), rfl⟩
    · skip
      refine cv_iconst C (pc' := 13) rfl (D 6 (12, .iconst 1, 1) rfl) (v := nI 1) (by decide) ?_
      refine cv_goto C (tgt := 17) (D 7 (13, .goto 4, 3) rfl) (by decide) ?_
      exact cv_iret C Rt (by decide) (D 9 (17, .ireturn, 1) rfl) ⟨congrArg (fun z => some (Value.int z)) (by rw [cv_in, decide_eq_true ⟨b1, Int32.not_le.mp b9⟩]; rfl), rfl⟩

set_option maxHeartbeats 4000000 in
set_option maxRecDepth 100000 in
theorem kX7_takes (L : cv_L) (p : Nat) (μ : cv_St) (hL : cv_LM L μ) (hB : cv_LB L) (hp : p < L 7 0) : cv_Ct yX7_takes cX7_takes 2 (some .int) 0 0 0 17 cv_shM [.ref 0, .int (nI p)] μ (cv_pu (.int (nI (cv_tk L p))) μ) := by
  refine cv_enter (own := RX7) (by decide) rfl (Nat.le_of_ble_eq_true rfl) ?_
  intro X a C Rt hRm
  have D := @cv_dec _ _ dkX7_takes
  obtain ⟨g0, g1, g2, g3, g4⟩ := hB.2.1 p hp
  have hp6 : p < 6 := Nat.lt_of_lt_of_le hp hB.1
  show cv_At X _ _ μ 0 [(0, .ref 0), (1, .int (nI p))] []
  refine cv_aload_n C (pc' := 1) rfl (D 0 (0, .aload_n 0, 1) rfl) rfl (j := 0) rfl ?_
  refine cv_get C (pc' := 4) rfl (k0 := 0) (i := 8) (ci := 7) (by decide) rfl rfl (by decide) (o := some 6) rfl iw_X7 wfX7_25 (D 1 (1, .getfield 25, 3) rfl) rfl ?_
  refine cv_iload_n C (pc' := 5) rfl (D 2 (4, .iload_n 1, 1) rfl) rfl (j := 1) rfl ?_
  refine cv_iald C (pc' := 6) rfl (k0 := 6) (j := p) (by decide) rfl rfl (by omega) (by decide) (D 3 (5, .iaload, 1) rfl) (v := nI (L 0 p)) (hL.2.2.2 p hp 0 (by decide)) ?_
  refine cv_if_neN C (pc' := 9) rfl (by omega) (tgt := 18) (D 4 (6, .ifCond .ne 12, 3) rfl) (by decide) (fun b6 => ?_) (fun b6 => ?_)
  · skip
    refine cv_aload_n C (pc' := 19) rfl (D 10 (18, .aload_n 0, 1) rfl) rfl (j := 0) rfl ?_
    refine cv_get C (pc' := 22) rfl (k0 := 0) (i := 8) (ci := 7) (by decide) rfl rfl (by decide) (o := some 6) rfl iw_X7 wfX7_25 (D 11 (19, .getfield 25, 3) rfl) rfl ?_
    refine cv_iload_n C (pc' := 23) rfl (D 12 (22, .iload_n 1, 1) rfl) rfl (j := 1) rfl ?_
    refine cv_iald C (pc' := 24) rfl (k0 := 6) (j := p) (by decide) rfl rfl (by omega) (by decide) (D 13 (23, .iaload, 1) rfl) (v := nI (L 0 p)) (hL.2.2.2 p hp 0 (by decide)) ?_
    refine cv_iconst C (pc' := 25) rfl (D 14 (24, .iconst 1, 1) rfl) (v := nI 1) (by decide) ?_
    refine cv_icmp_neN C (pc' := 28) rfl (by omega) (by omega) (tgt := 39) (D 15 (25, .if_icmp .ne 14, 3) rfl) (by decide) (fun b25 => ?_) (fun b25 => ?_)
    · skip
      refine cv_aload_n C (pc' := 40) rfl (D 23 (39, .aload_n 0, 1) rfl) rfl (j := 0) rfl ?_
      refine cv_get C (pc' := 43) rfl (k0 := 0) (i := 11) (ci := 7) (by decide) rfl rfl (by decide) (o := some 9) rfl iw_X7 wfX7_34 (D 24 (40, .getfield 34, 3) rfl) rfl ?_
      refine cv_iload_n C (pc' := 44) rfl (D 25 (43, .iload_n 1, 1) rfl) rfl (j := 1) rfl ?_
      refine cv_iald C (pc' := 45) rfl (k0 := 9) (j := p) (by decide) rfl rfl (by omega) (by decide) (D 26 (44, .iaload, 1) rfl) (v := nI (L 3 p)) (hL.2.2.2 p hp 3 (by decide)) ?_
      refine cv_iconst C (pc' := 46) rfl (D 27 (45, .iconst 1, 1) rfl) (v := nI 1) (by decide) ?_
      refine cv_iaddN C (pc' := 47) rfl (D 28 (46, .iadd, 1) rfl) ?_
      refine cv_iconst C (pc' := 48) rfl (D 29 (47, .iconst 2, 1) rfl) (v := nI 2) (by decide) ?_
      refine cv_idivN C (pc' := 49) rfl (by omega) (by decide) (by decide) (D 30 (48, .idiv, 1) rfl) ?_
      exact cv_iret C Rt rfl (D 31 (49, .ireturn, 1) rfl) ⟨congrArg (fun z => some (Value.int z)) (by unfold cv_tk; rw [if_neg b25, if_pos (by omega)]), rfl⟩
    · skip
      refine cv_aload_n C (pc' := 29) rfl (D 16 (28, .aload_n 0, 1) rfl) rfl (j := 0) rfl ?_
      refine cv_get C (pc' := 32) rfl (k0 := 0) (i := 11) (ci := 7) (by decide) rfl rfl (by decide) (o := some 9) rfl iw_X7 wfX7_34 (D 17 (29, .getfield 34, 3) rfl) rfl ?_
      refine cv_iload_n C (pc' := 33) rfl (D 18 (32, .iload_n 1, 1) rfl) rfl (j := 1) rfl ?_
      refine cv_iald C (pc' := 34) rfl (k0 := 9) (j := p) (by decide) rfl rfl (by omega) (by decide) (D 19 (33, .iaload, 1) rfl) (v := nI (L 3 p)) (hL.2.2.2 p hp 3 (by decide)) ?_
      refine cv_iconst C (pc' := 35) rfl (D 20 (34, .iconst 1, 1) rfl) (v := nI 1) (by decide) ?_
      refine cv_iaddN C (pc' := 36) rfl (D 21 (35, .iadd, 1) rfl) ?_
      refine cv_goto C (tgt := 49) (D 22 (36, .goto 13, 3) rfl) (by decide) ?_
      exact cv_iret C Rt rfl (D 31 (49, .ireturn, 1) rfl) ⟨congrArg (fun z => some (Value.int z)) (by unfold cv_tk; rw [if_pos b25]), rfl⟩
  · skip
    refine cv_aload_n C (pc' := 10) rfl (D 5 (9, .aload_n 0, 1) rfl) rfl (j := 0) rfl ?_
    refine cv_get C (pc' := 13) rfl (k0 := 0) (i := 11) (ci := 7) (by decide) rfl rfl (by decide) (o := some 9) rfl iw_X7 wfX7_34 (D 6 (10, .getfield 34, 3) rfl) rfl ?_
    refine cv_iload_n C (pc' := 14) rfl (D 7 (13, .iload_n 1, 1) rfl) rfl (j := 1) rfl ?_
    refine cv_iald C (pc' := 15) rfl (k0 := 9) (j := p) (by decide) rfl rfl (by omega) (by decide) (D 8 (14, .iaload, 1) rfl) (v := nI (L 3 p)) (hL.2.2.2 p hp 3 (by decide)) ?_
    refine cv_goto C (tgt := 49) (D 9 (15, .goto 34, 3) rfl) (by decide) ?_
    exact cv_iret C Rt rfl (D 31 (49, .ireturn, 1) rfl) ⟨congrArg (fun z => some (Value.int z)) (by unfold cv_tk; rw [if_neg (by omega), if_neg (by omega)]), rfl⟩

set_option maxHeartbeats 4000000 in
set_option maxRecDepth 100000 in
theorem kX7_isOpen (L : cv_L) (x : Int32) (p d : Nat) (μ : cv_St) (hL : cv_LM L μ) (hB : cv_LB L) (hM : μ 0 13 = x) (hp : p < L 7 0) (hd : d < 8) : cv_Ct yX7_isOpen cX7_isOpen 3 (some .boolean) 0 0 0 17 cv_shM [.ref 0, .int (nI p), .int (nI d)] μ (cv_pu (.int (cv_b (decide (¬ nI p = x) && cv_op L p d))) μ) := by
  refine cv_enter (own := RX7) (by decide) rfl (Nat.le_of_ble_eq_true rfl) ?_
  intro X a C Rt hRm
  have D := @cv_dec _ _ dkX7_isOpen
  obtain ⟨g0, g1, g2, g3, g4⟩ := hB.2.1 p hp
  have hp6 : p < 6 := Nat.lt_of_lt_of_le hp hB.1
  have hs := hB.2.2.1 d hd
  show cv_At X _ _ μ 0 [(0, .ref 0), (1, .int (nI p)), (2, .int (nI d))] []
  refine cv_iload_n C (pc' := 1) rfl (D 0 (0, .iload_n 1, 1) rfl) rfl (j := 1) rfl ?_
  refine cv_aload_n C (pc' := 2) rfl (D 1 (1, .aload_n 0, 1) rfl) rfl (j := 0) rfl ?_
  refine cv_get C (pc' := 5) rfl (k0 := 0) (i := 13) (ci := 7) (by decide) rfl rfl (by decide) (o := none) rfl iw_X7 wfX7_40 (D 2 (2, .getfield 40, 3) rfl) (v := .int x) (congrArg Value.int hM) ?_
  refine cv_icmp_eq C (pc' := 8) rfl (tgt := 37) (D 3 (5, .if_icmp .eq 32, 3) rfl) (by decide) (fun b5 => ?_) (fun b5 => ?_)
  · skip
    refine cv_iconst C (pc' := 38) rfl (D 21 (37, .iconst 0, 1) rfl) (v := nI 0) (by decide) ?_
    exact cv_iret C Rt (by decide) (D 22 (38, .ireturn, 1) rfl) ⟨congrArg (fun z => some (Value.int z)) (by rw [decide_eq_false (fun h => h b5)]; rfl), rfl⟩
  · skip
    refine cv_aload_n C (pc' := 9) rfl (D 4 (8, .aload_n 0, 1) rfl) rfl (j := 0) rfl ?_
    refine cv_get C (pc' := 12) rfl (k0 := 0) (i := 8) (ci := 7) (by decide) rfl rfl (by decide) (o := some 6) rfl iw_X7 wfX7_25 (D 5 (9, .getfield 25, 3) rfl) rfl ?_
    refine cv_iload_n C (pc' := 13) rfl (D 6 (12, .iload_n 1, 1) rfl) rfl (j := 1) rfl ?_
    refine cv_iald C (pc' := 14) rfl (k0 := 6) (j := p) (by decide) rfl rfl (by omega) (by decide) (D 7 (13, .iaload, 1) rfl) (v := nI (L 0 p)) (hL.2.2.2 p hp 0 (by decide)) ?_
    refine cv_iconst C (pc' := 15) rfl (D 8 (14, .iconst 2, 1) rfl) (v := nI 2) (by decide) ?_
    refine cv_icmp_eqN C (pc' := 18) rfl (by omega) (by omega) (tgt := 33) (D 9 (15, .if_icmp .eq 18, 3) rfl) (by decide) (fun b15 => ?_) (fun b15 => ?_)
    · skip
      refine cv_iconst C (pc' := 34) rfl (D 19 (33, .iconst 1, 1) rfl) (v := nI 1) (by decide) ?_
      refine cv_goto C (tgt := 38) (D 20 (34, .goto 4, 3) rfl) (by decide) ?_
      exact cv_iret C Rt (by decide) (D 22 (38, .ireturn, 1) rfl) ⟨congrArg (fun z => some (Value.int z)) (by unfold cv_op; rw [decide_eq_true b5, decide_eq_true (by omega)]; rfl), rfl⟩
    · skip
      refine cv_aload_n C (pc' := 19) rfl (D 10 (18, .aload_n 0, 1) rfl) rfl (j := 0) rfl ?_
      refine cv_get C (pc' := 22) rfl (k0 := 0) (i := 12) (ci := 7) (by decide) rfl rfl (by decide) (o := some 10) rfl iw_X7 wfX7_37 (D 11 (19, .getfield 37, 3) rfl) rfl ?_
      refine cv_iload_n C (pc' := 23) rfl (D 12 (22, .iload_n 1, 1) rfl) rfl (j := 1) rfl ?_
      refine cv_iald C (pc' := 24) rfl (k0 := 10) (j := p) (by decide) rfl rfl (by omega) (by decide) (D 13 (23, .iaload, 1) rfl) (v := nI (L 4 p)) (hL.2.2.2 p hp 4 (by decide)) ?_
      refine cv_aload_n C (pc' := 25) rfl (D 14 (24, .aload_n 0, 1) rfl) rfl (j := 0) rfl ?_
      refine cv_get C (pc' := 28) rfl (k0 := 0) (i := 6) (ci := 7) (by decide) rfl rfl (by decide) (o := some 4) rfl iw_X7 wfX7_19 (D 15 (25, .getfield 19, 3) rfl) rfl ?_
      refine cv_iload_n C (pc' := 29) rfl (D 16 (28, .iload_n 2, 1) rfl) rfl (j := 2) rfl ?_
      refine cv_iald C (pc' := 30) rfl (k0 := 4) (j := d) (by decide) rfl rfl (by omega) (by decide) (D 17 (29, .iaload, 1) rfl) (v := nI (L 5 d)) (hL.2.1 _ (by omega)) ?_
      refine cv_icmp_leN C (pc' := 33) rfl (by omega) (by omega) (tgt := 37) (D 18 (30, .if_icmp .le 7, 3) rfl) (by decide) (fun b30 => ?_) (fun b30 => ?_)
      · skip
        refine cv_iconst C (pc' := 38) rfl (D 21 (37, .iconst 0, 1) rfl) (v := nI 0) (by decide) ?_
        exact cv_iret C Rt (by decide) (D 22 (38, .ireturn, 1) rfl) ⟨congrArg (fun z => some (Value.int z)) (by unfold cv_op; rw [decide_eq_true b5, decide_eq_false (by omega)]; rfl), rfl⟩
      · skip
        refine cv_iconst C (pc' := 34) rfl (D 19 (33, .iconst 1, 1) rfl) (v := nI 1) (by decide) ?_
        refine cv_goto C (tgt := 38) (D 20 (34, .goto 4, 3) rfl) (by decide) ?_
        exact cv_iret C Rt (by decide) (D 22 (38, .ireturn, 1) rfl) ⟨congrArg (fun z => some (Value.int z)) (by unfold cv_op; rw [decide_eq_true b5, decide_eq_true (by omega)]; rfl), rfl⟩

set_option maxHeartbeats 4000000 in
set_option maxRecDepth 100000 in
theorem kX7_over (L : cv_L) (p v : Nat) (μ : cv_St) (hL : cv_LM L μ) (hB : cv_LB L) (hp : p < L 7 0) (hv : v < 3) : cv_Ct yX7_over cX7_over 3 (some .int) 0 0 0 17 cv_shM [.ref 0, .int (nI p), .int (nI v)] μ (cv_pu (.int (cv_o (cv_oe L p v))) μ) := by
  refine cv_enter (own := RX7) (by decide) rfl (Nat.le_of_ble_eq_true rfl) ?_
  intro X a C Rt hRm
  have D := @cv_dec _ _ dkX7_over
  obtain ⟨g0, g1, g2, g3, g4⟩ := hB.2.1 p hp
  have hp6 : p < 6 := Nat.lt_of_lt_of_le hp hB.1
  show cv_At X _ _ μ 0 [(0, .ref 0), (1, .int (nI p)), (2, .int (nI v))] []
  refine cv_aload_n C (pc' := 1) rfl (D 0 (0, .aload_n 0, 1) rfl) rfl (j := 0) rfl ?_
  refine cv_get C (pc' := 4) rfl (k0 := 0) (i := 9) (ci := 7) (by decide) rfl rfl (by decide) (o := some 7) rfl iw_X7 wfX7_28 (D 1 (1, .getfield 28, 3) rfl) rfl ?_
  refine cv_iload_n C (pc' := 5) rfl (D 2 (4, .iload_n 1, 1) rfl) rfl (j := 1) rfl ?_
  refine cv_iald C (pc' := 6) rfl (k0 := 7) (j := p) (by decide) rfl rfl (by omega) (by decide) (D 3 (5, .iaload, 1) rfl) (v := nI (L 1 p)) (hL.2.2.2 p hp 1 (by decide)) ?_
  refine cv_iload_n C (pc' := 7) rfl (D 4 (6, .iload_n 2, 1) rfl) rfl (j := 2) rfl ?_
  refine cv_icmp_neN C (pc' := 10) rfl (by omega) (by omega) (tgt := 19) (D 5 (7, .if_icmp .ne 12, 3) rfl) (by decide) (fun b7 => ?_) (fun b7 => ?_)
  · skip
    refine cv_aload_n C (pc' := 20) rfl (D 11 (19, .aload_n 0, 1) rfl) rfl (j := 0) rfl ?_
    refine cv_get C (pc' := 23) rfl (k0 := 0) (i := 10) (ci := 7) (by decide) rfl rfl (by decide) (o := some 8) rfl iw_X7 wfX7_31 (D 12 (20, .getfield 31, 3) rfl) rfl ?_
    refine cv_iload_n C (pc' := 24) rfl (D 13 (23, .iload_n 1, 1) rfl) rfl (j := 1) rfl ?_
    refine cv_iald C (pc' := 25) rfl (k0 := 8) (j := p) (by decide) rfl rfl (by omega) (by decide) (D 14 (24, .iaload, 1) rfl) (v := nI (L 2 p)) (hL.2.2.2 p hp 2 (by decide)) ?_
    refine cv_iload_n C (pc' := 26) rfl (D 15 (25, .iload_n 2, 1) rfl) rfl (j := 2) rfl ?_
    refine cv_icmp_neN C (pc' := 29) rfl (by omega) (by omega) (tgt := 38) (D 16 (26, .if_icmp .ne 12, 3) rfl) (by decide) (fun b26 => ?_) (fun b26 => ?_)
    · skip
      refine cv_bipush C (pc' := 40) rfl (D 22 (38, .bipush (-9), 2) rfl) (v := -9) (by decide) ?_
      exact cv_iret C Rt rfl (D 23 (40, .ireturn, 1) rfl) ⟨congrArg (fun z => some (Value.int z)) (by unfold cv_oe; rw [if_neg (fun h => b7 h.symm), if_neg (fun h => b26 h.symm)]; rfl), rfl⟩
    · skip
      refine cv_aload_n C (pc' := 30) rfl (D 17 (29, .aload_n 0, 1) rfl) rfl (j := 0) rfl ?_
      refine cv_get C (pc' := 33) rfl (k0 := 0) (i := 9) (ci := 7) (by decide) rfl rfl (by decide) (o := some 7) rfl iw_X7 wfX7_28 (D 18 (30, .getfield 28, 3) rfl) rfl ?_
      refine cv_iload_n C (pc' := 34) rfl (D 19 (33, .iload_n 1, 1) rfl) rfl (j := 1) rfl ?_
      refine cv_iald C (pc' := 35) rfl (k0 := 7) (j := p) (by decide) rfl rfl (by omega) (by decide) (D 20 (34, .iaload, 1) rfl) (v := nI (L 1 p)) (hL.2.2.2 p hp 1 (by decide)) ?_
      refine cv_goto C (tgt := 40) (D 21 (35, .goto 5, 3) rfl) (by decide) ?_
      exact cv_iret C Rt rfl (D 23 (40, .ireturn, 1) rfl) ⟨congrArg (fun z => some (Value.int z)) (by unfold cv_oe; rw [if_neg (fun h => b7 h.symm), if_pos b26.symm]; rfl), rfl⟩
  · skip
    refine cv_aload_n C (pc' := 11) rfl (D 6 (10, .aload_n 0, 1) rfl) rfl (j := 0) rfl ?_
    refine cv_get C (pc' := 14) rfl (k0 := 0) (i := 10) (ci := 7) (by decide) rfl rfl (by decide) (o := some 8) rfl iw_X7 wfX7_31 (D 7 (11, .getfield 31, 3) rfl) rfl ?_
    refine cv_iload_n C (pc' := 15) rfl (D 8 (14, .iload_n 1, 1) rfl) rfl (j := 1) rfl ?_
    refine cv_iald C (pc' := 16) rfl (k0 := 8) (j := p) (by decide) rfl rfl (by omega) (by decide) (D 9 (15, .iaload, 1) rfl) (v := nI (L 2 p)) (hL.2.2.2 p hp 2 (by decide)) ?_
    refine cv_goto C (tgt := 40) (D 10 (16, .goto 24, 3) rfl) (by decide) ?_
    exact cv_iret C Rt rfl (D 23 (40, .ireturn, 1) rfl) ⟨congrArg (fun z => some (Value.int z)) (by unfold cv_oe; rw [if_pos b7.symm]; rfl), rfl⟩

set_option maxHeartbeats 4000000 in
set_option maxRecDepth 100000 in
theorem kX7_doesGive (L : cv_L) (v i : Nat) (μ : cv_St) (hL : cv_LM L μ) (hB : cv_LB L) (hv : v < 3) (hi : i < 32) : cv_Ct yX7_doesGive cX7_doesGive 3 (some .boolean) 0 0 0 17 cv_shM [.ref 0, .int (nI v), .int (nI i)] μ (cv_pu (.int (cv_b ((L 6 v).testBit i))) μ) := by
  refine cv_enter (own := RX7) (by decide) rfl (Nat.le_of_ble_eq_true rfl) ?_
  intro X a C Rt hRm
  have D := @cv_dec _ _ dkX7_doesGive
  have hgv := hB.2.2.2 v hv
  have hb1 := cv_tb_lt (L 6 v) i
  show cv_At X _ _ μ 0 [(0, .ref 0), (1, .int (nI v)), (2, .int (nI i))] []
  refine cv_aload_n C (pc' := 1) rfl (D 0 (0, .aload_n 0, 1) rfl) rfl (j := 0) rfl ?_
  refine cv_get C (pc' := 4) rfl (k0 := 0) (i := 7) (ci := 7) (by decide) rfl rfl (by decide) (o := some 5) rfl iw_X7 wfX7_22 (D 1 (1, .getfield 22, 3) rfl) rfl ?_
  refine cv_iload_n C (pc' := 5) rfl (D 2 (4, .iload_n 1, 1) rfl) rfl (j := 1) rfl ?_
  refine cv_iald C (pc' := 6) rfl (k0 := 5) (j := v) (by decide) rfl rfl (by omega) (by decide) (D 3 (5, .iaload, 1) rfl) (v := nI (L 6 v)) (hL.2.2.1 _ (by omega)) ?_
  refine cv_iload_n C (pc' := 7) rfl (D 4 (6, .iload_n 2, 1) rfl) rfl (j := 2) rfl ?_
  refine cv_ishrN C (pc' := 8) rfl (by omega) (by omega) (D 5 (7, .ishr, 1) rfl) ?_
  refine cv_iconst C (pc' := 9) rfl (D 6 (8, .iconst 1, 1) rfl) (v := nI 1) (by decide) ?_
  refine cv_iandN C (pc' := 10) rfl (D 7 (9, .iand, 1) rfl) ?_
  refine cv_iconst C (pc' := 11) rfl (D 8 (10, .iconst 1, 1) rfl) (v := nI 1) (by decide) ?_
  refine cv_icmp_neN C (pc' := 14) rfl (by omega) (by omega) (tgt := 18) (D 9 (11, .if_icmp .ne 7, 3) rfl) (by decide) (fun b11 => ?_) (fun b11 => ?_)
  · skip
    refine cv_iconst C (pc' := 19) rfl (D 12 (18, .iconst 0, 1) rfl) (v := nI 0) (by decide) ?_
    exact cv_iret C Rt (by decide) (D 13 (19, .ireturn, 1) rfl) ⟨congrArg (fun z => some (Value.int z)) (by rw [cv_tb0 (by omega)]; rfl), rfl⟩
  · skip
    refine cv_iconst C (pc' := 15) rfl (D 10 (14, .iconst 1, 1) rfl) (v := nI 1) (by decide) ?_
    refine cv_goto C (tgt := 19) (D 11 (15, .goto 4, 3) rfl) (by decide) ?_
    exact cv_iret C Rt (by decide) (D 13 (19, .ireturn, 1) rfl) ⟨congrArg (fun z => some (Value.int z)) (by rw [cv_tb1 (by omega)]; rfl), rfl⟩

set_option maxHeartbeats 4000000 in
set_option maxRecDepth 100000 in
theorem kX7_spot {n : Nat} {sh : Nat → cv_Sh} (d v r : Nat) (μ : cv_St)  : cv_Ct yX7_spot cX7_spot 3 (some .int) 0 0 0 n sh [.int (nI d), .int (nI v), .int (nI r)] μ (cv_pu (.int (nI (((3 * d) + v) * 2 + r))) μ) := by
  refine cv_enter (own := RX7) (by decide) rfl (Nat.le_of_ble_eq_true rfl) ?_
  intro X a C Rt hRm
  have D := @cv_dec _ _ dkX7_spot
  show cv_At X _ _ μ 0 [(0, .int (nI d)), (1, .int (nI v)), (2, .int (nI r))] []
  refine cv_iconst C (pc' := 1) rfl (D 0 (0, .iconst 3, 1) rfl) (v := nI 3) (by decide) ?_
  refine cv_iload_n C (pc' := 2) rfl (D 1 (1, .iload_n 0, 1) rfl) rfl (j := 0) rfl ?_
  refine cv_imulN C (pc' := 3) rfl (D 2 (2, .imul, 1) rfl) ?_
  refine cv_iload_n C (pc' := 4) rfl (D 3 (3, .iload_n 1, 1) rfl) rfl (j := 1) rfl ?_
  refine cv_iaddN C (pc' := 5) rfl (D 4 (4, .iadd, 1) rfl) ?_
  refine cv_iconst C (pc' := 6) rfl (D 5 (5, .iconst 2, 1) rfl) (v := nI 2) (by decide) ?_
  refine cv_imulN C (pc' := 7) rfl (D 6 (6, .imul, 1) rfl) ?_
  refine cv_iload_n C (pc' := 8) rfl (D 7 (7, .iload_n 2, 1) rfl) rfl (j := 2) rfl ?_
  refine cv_iaddN C (pc' := 9) rfl (D 8 (8, .iadd, 1) rfl) ?_
  exact cv_iret C Rt rfl (D 9 (9, .ireturn, 1) rfl) ⟨rfl, rfl⟩

theorem cv_cm_t {T : Nat → Option Nat} {μ : cv_St} (hT : cv_TM T μ) {d v r h : Nat} {w : Int32} (hd : d < 8) (hw : w = cv_o (cv_mn (T ((3 * d + v) * 2 + r)) (some h))) : cv_TM (cv_cm T d v r h) (cv_u μ 14 ((3 * d + v) * 2 + r) w) := by
  intro j hj
  unfold cv_cm
  rw [if_pos hd]
  by_cases e : j = (3 * d + v) * 2 + r
  · rw [e, cv_u_s, cv_ss_s, hw]
  · rw [cv_u_i e, cv_ss_n e]
    exact hT j hj
set_option maxHeartbeats 4000000 in
set_option maxRecDepth 100000 in
theorem kX7_comes (T : Nat → Option Nat) (d v r h : Nat) (μ : cv_St) (hT : cv_TM T μ) (hz : cv_TZ T) (hv : v < 3) (hr : r < 2) (hd : d < 2 ^ 30) (hh : h ≤ d) : cv_Ct yX7_comes cX7_comes 6 none 1 0 0 17 cv_shM [.ref 0, .int (nI d), .int (nI v), .int (nI r), .int (nI h)] μ (fun w u => w = none ∧ (∀ k, k ≠ 14 → u k = μ k) ∧ cv_TM (cv_cm T d v r h) u) := by
  refine cv_enter (own := RX7) (by decide) rfl (Nat.le_of_ble_eq_true rfl) ?_
  intro X a C Rt hRm
  have D := @cv_dec _ _ dkX7_comes
  show cv_At X _ _ μ 0 [(0, .ref 0), (1, .int (nI d)), (2, .int (nI v)), (3, .int (nI r)), (4, .int (nI h))] []
  refine cv_iload_n C (pc' := 1) rfl (D 0 (0, .iload_n 1, 1) rfl) rfl (j := 1) rfl ?_
  refine cv_bipush C (pc' := 3) rfl (D 1 (1, .bipush 8, 2) rfl) (v := nI 8) (by decide) ?_
  refine cv_icmp_geN C (pc' := 6) rfl (by omega) (by omega) (tgt := 57) (D 2 (3, .if_icmp .ge 54, 3) rfl) (by decide) (fun b3 => ?_) (fun b3 => ?_)
  · skip
    exact cv_vret C Rt (D 30 (57, .return_, 1) rfl) ⟨rfl, fun _ _ => rfl, by unfold cv_cm; rw [if_neg (by omega)]; exact hT⟩
  · skip
    refine cv_iload_n C (pc' := 7) rfl (D 3 (6, .iload_n 1, 1) rfl) rfl (j := 1) rfl ?_
    refine cv_iload_n C (pc' := 8) rfl (D 4 (7, .iload_n 2, 1) rfl) rfl (j := 2) rfl ?_
    refine cv_iload_n C (pc' := 9) rfl (D 5 (8, .iload_n 3, 1) rfl) rfl (j := 3) rfl ?_
    refine cv_callS C (pc' := 12) rfl (As := [.int (nI d), .int (nI v), .int (nI r)]) (rest := []) (idx := 133) (np := 3) (kX7_spot d v r μ) (by decide +kernel) rfl wmX7_133 wt_yX7_spot wn_X7 wc_yX7_spot (by decide) (by decide) (D 6 (9, .invokestatic 133, 3) rfl) (Nat.le_of_ble_eq_true rfl) rfl (fun w9 u9 h9 => ?_)
    rw [h9.1, h9.2]
    show cv_At X _ _ μ 12 _ [.int (nI ((3 * d + v) * 2 + r))]
    refine cv_istore C (pc' := 14) rfl (D 7 (12, .istore 5, 2) rfl) (by decide) (lv' := [(5, .int (nI ((3 * d + v) * 2 + r))), (0, .ref 0), (1, .int (nI d)), (2, .int (nI v)), (3, .int (nI r)), (4, .int (nI h))]) rfl ?_
    refine cv_aload_n C (pc' := 15) rfl (D 8 (14, .aload_n 0, 1) rfl) rfl (j := 1) rfl ?_
    refine cv_get C (pc' := 18) rfl (k0 := 0) (i := 19) (ci := 7) (by decide) rfl rfl (by decide) (o := some 14) rfl iw_X7 wfX7_53 (D 9 (15, .getfield 53, 3) rfl) rfl ?_
    refine cv_iload C (pc' := 20) rfl (D 10 (18, .iload 5, 2) rfl) (j := 0) rfl ?_
    refine cv_aload_n C (pc' := 21) rfl (D 11 (20, .aload_n 0, 1) rfl) rfl (j := 1) rfl ?_
    refine cv_get C (pc' := 24) rfl (k0 := 0) (i := 19) (ci := 7) (by decide) rfl rfl (by decide) (o := some 14) rfl iw_X7 wfX7_53 (D 12 (21, .getfield 53, 3) rfl) rfl ?_
    refine cv_iload C (pc' := 26) rfl (D 13 (24, .iload 5, 2) rfl) (j := 0) rfl ?_
    refine cv_iald C (pc' := 27) rfl (k0 := 14) (j := (3 * d + v) * 2 + r) (by decide) rfl rfl (by omega) (by decide) (D 14 (26, .iaload, 1) rfl) (v := cv_o (T ((3 * d + v) * 2 + r))) (hT _ (by omega)) ?_
    refine cv_bipush C (pc' := 29) rfl (D 15 (27, .bipush (-9), 2) rfl) (v := -9) (by decide) ?_
    refine cv_icmp_eqO C (pc' := 32) rfl (fun z h9 => by have := hz _ _ h9; omega) (tgt := 44) (D 16 (29, .if_icmp .eq 15, 3) rfl) (by decide) (fun b29 => ?_) (fun z29 b29 => ?_)
    · skip
      refine cv_iload C (pc' := 46) rfl (D 23 (44, .iload 4, 2) rfl) (j := 5) rfl ?_
      refine cv_goto C (tgt := 56) (D 24 (46, .goto 10, 3) rfl) (by decide) ?_
      refine cv_iast C (pc' := 57) rfl (k0 := 14) (j := (3 * d + v) * 2 + r) (by decide) rfl rfl (by omega) (by decide) (D 29 (56, .iastore, 1) rfl) ?_
      exact cv_vret C Rt (D 30 (57, .return_, 1) rfl) ⟨rfl, fun k hk => cv_u_c hk, cv_cm_t hT b3 (by rw [b29]; rfl)⟩
    · skip
      have hz29 := hz _ _ b29
      refine cv_iload C (pc' := 34) rfl (D 17 (32, .iload 4, 2) rfl) (j := 5) rfl ?_
      refine cv_aload_n C (pc' := 35) rfl (D 18 (34, .aload_n 0, 1) rfl) rfl (j := 1) rfl ?_
      refine cv_get C (pc' := 38) rfl (k0 := 0) (i := 19) (ci := 7) (by decide) rfl rfl (by decide) (o := some 14) rfl iw_X7 wfX7_53 (D 19 (35, .getfield 53, 3) rfl) rfl ?_
      refine cv_iload C (pc' := 40) rfl (D 20 (38, .iload 5, 2) rfl) (j := 0) rfl ?_
      refine cv_iald C (pc' := 41) rfl (k0 := 14) (j := (3 * d + v) * 2 + r) (by decide) rfl rfl (by omega) (by decide) (D 21 (40, .iaload, 1) rfl) (v := nI z29) ((hT _ (by omega)).trans (congrArg cv_o b29)) ?_
      refine cv_icmp_geN C (pc' := 44) rfl (by omega) (by omega) (tgt := 49) (D 22 (41, .if_icmp .ge 8, 3) rfl) (by decide) (fun b41 => ?_) (fun b41 => ?_)
      · skip
        refine cv_aload_n C (pc' := 50) rfl (D 25 (49, .aload_n 0, 1) rfl) rfl (j := 1) rfl ?_
        refine cv_get C (pc' := 53) rfl (k0 := 0) (i := 19) (ci := 7) (by decide) rfl rfl (by decide) (o := some 14) rfl iw_X7 wfX7_53 (D 26 (50, .getfield 53, 3) rfl) rfl ?_
        refine cv_iload C (pc' := 55) rfl (D 27 (53, .iload 5, 2) rfl) (j := 0) rfl ?_
        refine cv_iald C (pc' := 56) rfl (k0 := 14) (j := (3 * d + v) * 2 + r) (by decide) rfl rfl (by omega) (by decide) (D 28 (55, .iaload, 1) rfl) (v := nI z29) ((hT _ (by omega)).trans (congrArg cv_o b29)) ?_
        refine cv_iast C (pc' := 57) rfl (k0 := 14) (j := (3 * d + v) * 2 + r) (by decide) rfl rfl (by omega) (by decide) (D 29 (56, .iastore, 1) rfl) ?_
        exact cv_vret C Rt (D 30 (57, .return_, 1) rfl) ⟨rfl, fun k hk => cv_u_c hk, cv_cm_t hT b3 (by rw [b29]; exact congrArg nI (Nat.min_eq_left (by omega)).symm)⟩
      · skip
        refine cv_iload C (pc' := 46) rfl (D 23 (44, .iload 4, 2) rfl) (j := 5) rfl ?_
        refine cv_goto C (tgt := 56) (D 24 (46, .goto 10, 3) rfl) (by decide) ?_
        refine cv_iast C (pc' := 57) rfl (k0 := 14) (j := (3 * d + v) * 2 + r) (by decide) rfl rfl (by omega) (by decide) (D 29 (56, .iastore, 1) rfl) ?_
        exact cv_vret C Rt (D 30 (57, .return_, 1) rfl) ⟨rfl, fun k hk => cv_u_c hk, cv_cm_t hT b3 (by rw [b29]; exact congrArg nI (Nat.min_eq_right (by omega)).symm)⟩

/-- the reference's table and what is done, as its ints hold them -/
def cv_SM (S : cv_MS) (μ : cv_St) : Prop := cv_TM S.1 μ ∧ μ 0 20 = cv_o S.2.1 ∧ μ 0 21 = cv_o S.2.2
def cv_fw (μ u : cv_St) : Prop := (∀ k, k ≠ 0 → k ≠ 14 → u k = μ k) ∧ ∀ i, i ≠ 20 → i ≠ 21 → u 0 i = μ 0 i
theorem cv_fw_r (μ : cv_St) : cv_fw μ μ := ⟨fun _ _ _ => rfl, fun _ _ _ => rfl⟩
theorem cv_fw_t {μ u w : cv_St} (h1 : cv_fw μ u) (h2 : cv_fw u w) : cv_fw μ w := ⟨fun k a b => (h2.1 k a b).trans (h1.1 k a b), fun i a b => (h2.2 i a b).trans (h1.2 i a b)⟩
theorem cv_fw_14 {μ u : cv_St} (h : ∀ k, k ≠ 14 → u k = μ k) : cv_fw μ u := ⟨fun k _ b => h k b, fun i _ _ => by rw [h 0 (by decide)]⟩
theorem cv_fw_m {μ u : cv_St} (h : cv_fw μ u) : cv_fm μ u := ⟨fun k a b => h.1 k a (by omega), fun i hi => h.2 i (by omega) (by omega)⟩
theorem cv_LM_w {L : cv_L} {μ u : cv_St} (h : cv_fw μ u) (hL : cv_LM L μ) : cv_LM L u := cv_LM_k (cv_fw_m h) hL
set_option maxHeartbeats 4000000 in
set_option maxRecDepth 100000 in
theorem kX7_goOn (L : cv_L) (x : Int32) (S : cv_MS) (d v r : Nat) (μ : cv_St) (hL : cv_LM L μ) (hB : cv_LB L) (hM : μ 0 13 = x) (hS : cv_SM S μ) (hz : cv_SZ S) (hd : d < 8) (hv : v < 3) (hr : r < 2) : cv_Ct yX7_goOn cX7_goOn 6 none 2 0 0 17 cv_shM [.ref 0, .int (nI d), .int (nI v), .int (nI r)] μ (fun w u => w = none ∧ cv_fw μ u ∧ cv_SM (cv_g1 L x d v r S) u) := by
  refine cv_enter (own := RX7) (by decide) rfl (Nat.le_of_ble_eq_true rfl) ?_
  intro X a C Rt hRm
  have D := @cv_dec _ _ dkX7_goOn
  have hn6 := hB.1
  have hg2 := hB.2.2.2 2 (by decide)
  show cv_At X _ _ μ 0 [(0, .ref 0), (1, .int (nI d)), (2, .int (nI v)), (3, .int (nI r))] []
  refine cv_aload_n C (pc' := 1) rfl (D 0 (0, .aload_n 0, 1) rfl) rfl (j := 0) rfl ?_
  refine cv_get C (pc' := 4) rfl (k0 := 0) (i := 19) (ci := 7) (by decide) rfl rfl (by decide) (o := some 14) rfl iw_X7 wfX7_53 (D 1 (1, .getfield 53, 3) rfl) rfl ?_
  refine cv_iload_n C (pc' := 5) rfl (D 2 (4, .iload_n 1, 1) rfl) rfl (j := 1) rfl ?_
  refine cv_iload_n C (pc' := 6) rfl (D 3 (5, .iload_n 2, 1) rfl) rfl (j := 2) rfl ?_
  refine cv_iload_n C (pc' := 7) rfl (D 4 (6, .iload_n 3, 1) rfl) rfl (j := 3) rfl ?_
  refine cv_callS C (pc' := 10) rfl (As := [.int (nI d), .int (nI v), .int (nI r)]) (rest := [.ref 14]) (idx := 133) (np := 3) (kX7_spot d v r μ) (by decide +kernel) rfl wmX7_133 wt_yX7_spot wn_X7 wc_yX7_spot (by decide) (by decide) (D 5 (7, .invokestatic 133, 3) rfl) (Nat.le_of_ble_eq_true rfl) rfl (fun w9 u9 h9 => ?_)
  rw [h9.1, h9.2]
  show cv_At X _ _ μ 10 _ [.int (nI ((3 * d + v) * 2 + r)), .ref 14]
  refine cv_iald C (pc' := 11) rfl (k0 := 14) (j := (3 * d + v) * 2 + r) (by decide) rfl rfl (by omega) (by decide) (D 6 (10, .iaload, 1) rfl) (v := cv_o (S.1 ((3 * d + v) * 2 + r))) (hS.1 _ (by omega)) ?_
  refine cv_istore C (pc' := 13) rfl (D 7 (11, .istore 4, 2) rfl) (by decide) (lv' := [(4, .int (cv_o (S.1 ((3 * d + v) * 2 + r)))), (0, .ref 0), (1, .int (nI d)), (2, .int (nI v)), (3, .int (nI r))]) rfl ?_
  refine cv_iload C (pc' := 15) rfl (D 8 (13, .iload 4, 2) rfl) (j := 0) rfl ?_
  refine cv_bipush C (pc' := 17) rfl (D 9 (15, .bipush (-9), 2) rfl) (v := -9) (by decide) ?_
  refine cv_icmp_neO C (pc' := 20) rfl (fun z h9 => by have := hz.1 _ _ h9; omega) (tgt := 21) (D 10 (17, .if_icmp .ne 4, 3) rfl) (by decide) (fun z17 b17 => ?_) (fun b17 => ?_)
  · skip
    have ez17 : cv_o (S.1 ((3 * d + v) * 2 + r)) = nI z17 := by rw [b17]; rfl
    rw [ez17]
    have hz17 : z17 ≤ d := by have := hz.1 _ _ b17; omega
    refine cv_iload_n C (pc' := 22) rfl (D 12 (21, .iload_n 3, 1) rfl) rfl (j := 4) rfl ?_
    have J92 : ∀ (o1 : Option Nat) (o2 : Option Nat) (τ : cv_St), ((o1, o2) = (if r = 1 ∧ v = 2 ∧ (L 6 2).testBit d = true then (cv_kf S.2.1 d, cv_mn S.2.2 (some z17)) else (S.2.1, S.2.2))) → (cv_TM S.1 τ) → (τ 0 20 = cv_o o1) → (τ 0 21 = cv_o o2) → (cv_fw μ τ) → cv_At X (17, cv_shM, 0, 0, a) 6 τ 92 [(4, .int (nI z17)), (0, .ref 0), (1, .int (nI d)), (2, .int (nI v)), (3, .int (nI r))] [] := by
      intro o1 o2 τ e12 hTτ h20 h21 hFτ
      have hLτ := cv_LM_w hFτ hL
      have hMτ : τ 0 13 = x := by rw [hFτ.2 13 (by decide) (by decide)]; exact hM
      refine cv_aload_n C (pc' := 93) rfl (D 47 (92, .aload_n 0, 1) rfl) rfl (j := 1) rfl ?_
      refine cv_iload_n C (pc' := 94) rfl (D 48 (93, .iload_n 1, 1) rfl) rfl (j := 2) rfl ?_
      refine cv_iconst C (pc' := 95) rfl (D 49 (94, .iconst 1, 1) rfl) (v := nI 1) (by decide) ?_
      refine cv_iaddN C (pc' := 96) rfl (D 50 (95, .iadd, 1) rfl) ?_
      refine cv_iload_n C (pc' := 97) rfl (D 51 (96, .iload_n 2, 1) rfl) rfl (j := 3) rfl ?_
      refine cv_iload_n C (pc' := 98) rfl (D 52 (97, .iload_n 3, 1) rfl) rfl (j := 4) rfl ?_
      refine cv_iload C (pc' := 100) rfl (D 53 (98, .iload 4, 2) rfl) (j := 0) rfl ?_
      refine cv_iconst C (pc' := 101) rfl (D 54 (100, .iconst 1, 1) rfl) (v := nI 1) (by decide) ?_
      refine cv_iaddN C (pc' := 102) rfl (D 55 (101, .iadd, 1) rfl) ?_
      refine cv_callV C (pc' := 105) rfl (k0 := 0) (ci := 7) (As := [.int (nI (d + 1)), .int (nI v), .int (nI r), .int (nI (z17 + 1))]) (rest := []) (idx := 145) (np := 4) (kX7_comes S.1 (d + 1) v r (z17 + 1) τ hTτ hz.1 (by omega) hr (by omega) (by omega)) (by decide) rfl rfl rfl (by decide +kernel) rfl wmX7_145 wi_yX7_comes ws_yX7_comes wn_X7 wc_yX7_comes (by decide) (by decide) (D 56 (102, .invokevirtual 145, 3) rfl) (Nat.le_of_ble_eq_true rfl) rfl (fun w102 u102 h102 => ?_)
      obtain ⟨e102, f102, t102⟩ := h102
      rw [e102]
      have hFu102 : cv_fw μ u102 := cv_fw_t hFτ (cv_fw_14 f102)
      have hLu102 := cv_LM_w hFu102 hL
      have hMu102 : u102 0 13 = x := by rw [hFu102.2 13 (by decide) (by decide)]; exact hM
      have hyu102 : u102 0 20 = cv_o o1 ∧ u102 0 21 = cv_o o2 := by rw [f102 0 (by decide)]; exact ⟨h20, h21⟩
      show cv_At X _ _ u102 105 _ []
      refine cv_iconst C (pc' := 106) rfl (D 57 (105, .iconst 0, 1) rfl) (v := nI 0) (by decide) ?_
      refine cv_istore C (pc' := 108) rfl (D 58 (106, .istore 5, 2) rfl) (by decide) (lv' := [(5, .int (nI 0)), (4, .int (nI z17)), (0, .ref 0), (1, .int (nI d)), (2, .int (nI v)), (3, .int (nI r))]) rfl ?_
      have LP108 : ∀ (q : Nat) (n : Nat) (τ2 : cv_St), (n + q = L 7 0) → (cv_fw μ τ2) → (cv_TM (cv_gl L x d v r z17 (cv_cm S.1 (d + 1) v r (z17 + 1)) n) τ2) → (τ2 0 20 = cv_o o1 ∧ τ2 0 21 = cv_o o2) → cv_At X (17, cv_shM, 0, 0, a) 6 τ2 108 [(5, .int (nI n)), (4, .int (nI z17)), (0, .ref 0), (1, .int (nI d)), (2, .int (nI v)), (3, .int (nI r))] [] := by
        intro q
        induction q with
        | zero =>
          intro n τ2 hq hFτ2 hTτ2 hyτ2
          have hLτ2 := cv_LM_w hFτ2 hL
          refine cv_iload C (pc' := 110) rfl (D 59 (108, .iload 5, 2) rfl) (j := 0) rfl ?_
          refine cv_aload_n C (pc' := 111) rfl (D 60 (110, .aload_n 0, 1) rfl) rfl (j := 2) rfl ?_
          refine cv_get C (pc' := 114) rfl (k0 := 0) (i := 5) (ci := 7) (by decide) rfl rfl (by decide) (o := none) rfl iw_X7 wfX7_71 (D 61 (111, .getfield 71, 3) rfl) (v := .int (nI (L 7 0))) (congrArg Value.int hLτ2.1) ?_
          refine cv_icmp_geN C (pc' := 117) rfl (by omega) (by omega) (tgt := 167) (D 62 (114, .if_icmp .ge 53, 3) rfl) (by decide) (fun b114 => ?_) (fun b114 => ?_)
          · skip
            exact cv_vret C Rt (D 89 (167, .return_, 1) rfl) ⟨rfl, hFτ2, by unfold cv_g1; rw [b17]; dsimp only; rw [← e12, show L 7 0 = n by omega]; exact ⟨hTτ2, hyτ2.1, hyτ2.2⟩⟩
          · skip
            omega
        | succ q ih108 =>
          intro n τ2 hq hFτ2 hTτ2 hyτ2
          have hp : n < L 7 0 := by omega
          have hLτ2 := cv_LM_w hFτ2 hL
          have hMτ2 : τ2 0 13 = x := by rw [hFτ2.2 13 (by decide) (by decide)]; exact hM
          have hzg : cv_TZ (cv_gl L x d v r z17 (cv_cm S.1 (d + 1) v r (z17 + 1)) n) := cv_gl_z hB hr hz17 (cv_cm_z hz.1 hv hr (by omega)) n (by omega)
          have htk := cv_tk_b hB hp
          refine cv_iload C (pc' := 110) rfl (D 59 (108, .iload 5, 2) rfl) (j := 0) rfl ?_
          refine cv_aload_n C (pc' := 111) rfl (D 60 (110, .aload_n 0, 1) rfl) rfl (j := 2) rfl ?_
          refine cv_get C (pc' := 114) rfl (k0 := 0) (i := 5) (ci := 7) (by decide) rfl rfl (by decide) (o := none) rfl iw_X7 wfX7_71 (D 61 (111, .getfield 71, 3) rfl) (v := .int (nI (L 7 0))) (congrArg Value.int hLτ2.1) ?_
          refine cv_icmp_geN C (pc' := 117) rfl (by omega) (by omega) (tgt := 167) (D 62 (114, .if_icmp .ge 53, 3) rfl) (by decide) (fun b114 => ?_) (fun b114 => ?_)
          · skip
            omega
          · skip
            refine cv_aload_n C (pc' := 118) rfl (D 63 (117, .aload_n 0, 1) rfl) rfl (j := 2) rfl ?_
            refine cv_iload C (pc' := 120) rfl (D 64 (118, .iload 5, 2) rfl) (j := 0) rfl ?_
            refine cv_iload_n C (pc' := 121) rfl (D 65 (120, .iload_n 1, 1) rfl) rfl (j := 3) rfl ?_
            refine cv_callV C (pc' := 124) rfl (k0 := 0) (ci := 7) (As := [.int (nI n), .int (nI d)]) (rest := []) (idx := 130) (np := 2) (kX7_isOpen L x n d τ2 hLτ2 hB hMτ2 hp hd) (by decide) rfl rfl rfl (by decide +kernel) rfl wmX7_130 wi_yX7_isOpen ws_yX7_isOpen wn_X7 wc_yX7_isOpen (by decide) (by decide) (D 66 (121, .invokevirtual 130, 3) rfl) (Nat.le_of_ble_eq_true rfl) rfl (fun w9 u9 h9 => ?_)
            rw [h9.1, h9.2]
            show cv_At X _ _ τ2 124 _ [.int (cv_b (decide (¬ nI n = x) && cv_op L n d))]
            refine cv_if_eqB C (pc' := 127) rfl (tgt := 161) (D 67 (124, .ifCond .eq 37, 3) rfl) (by decide) (fun b124 => ?_) (fun b124 => ?_)
            · skip
              refine cv_iincN C (pc' := 164) rfl (D 87 (161, .iinc 5 1, 3) rfl) (j := 0) rfl (by decide) (lv' := [(5, .int (nI (n + 1))), (4, .int (nI z17)), (0, .ref 0), (1, .int (nI d)), (2, .int (nI v)), (3, .int (nI r))]) rfl ?_
              refine cv_goto C (tgt := 108) (D 88 (164, .goto (-56), 3) rfl) (by decide) ?_
              exact ih108 (n + 1) τ2 (by omega) hFτ2 (by simp only [cv_gl]; unfold cv_gp; rw [if_neg (by rw [b124]; decide)]; exact hTτ2) hyτ2
            · skip
              refine cv_aload_n C (pc' := 128) rfl (D 68 (127, .aload_n 0, 1) rfl) rfl (j := 2) rfl ?_
              refine cv_iload C (pc' := 130) rfl (D 69 (128, .iload 5, 2) rfl) (j := 0) rfl ?_
              refine cv_iload_n C (pc' := 131) rfl (D 70 (130, .iload_n 2, 1) rfl) rfl (j := 4) rfl ?_
              refine cv_callV C (pc' := 134) rfl (k0 := 0) (ci := 7) (As := [.int (nI n), .int (nI v)]) (rest := []) (idx := 149) (np := 2) (kX7_over L n v τ2 hLτ2 hB hp hv) (by decide) rfl rfl rfl (by decide +kernel) rfl wmX7_149 wi_yX7_over ws_yX7_over wn_X7 wc_yX7_over (by decide) (by decide) (D 71 (131, .invokevirtual 149, 3) rfl) (Nat.le_of_ble_eq_true rfl) rfl (fun w9 u9 h9 => ?_)
              rw [h9.1, h9.2]
              show cv_At X _ _ τ2 134 _ [.int (cv_o (cv_oe L n v))]
              refine cv_bipush C (pc' := 136) rfl (D 72 (134, .bipush (-9), 2) rfl) (v := -9) (by decide) ?_
              refine cv_icmp_eqO C (pc' := 139) rfl (fun z h => Nat.lt_of_le_of_lt (cv_oe_le hB hp h) (by decide)) (tgt := 161) (D 73 (136, .if_icmp .eq 25, 3) rfl) (by decide) (fun b136 => ?_) (fun z136 b136 => ?_)
              · skip
                refine cv_iincN C (pc' := 164) rfl (D 87 (161, .iinc 5 1, 3) rfl) (j := 0) rfl (by decide) (lv' := [(5, .int (nI (n + 1))), (4, .int (nI z17)), (0, .ref 0), (1, .int (nI d)), (2, .int (nI v)), (3, .int (nI r))]) rfl ?_
                refine cv_goto C (tgt := 108) (D 88 (164, .goto (-56), 3) rfl) (by decide) ?_
                exact ih108 (n + 1) τ2 (by omega) hFτ2 (by simp only [cv_gl]; unfold cv_gp; rw [if_pos b124, b136]; exact hTτ2) hyτ2
              · skip
                refine cv_aload_n C (pc' := 140) rfl (D 74 (139, .aload_n 0, 1) rfl) rfl (j := 2) rfl ?_
                refine cv_iload_n C (pc' := 141) rfl (D 75 (140, .iload_n 1, 1) rfl) rfl (j := 3) rfl ?_
                refine cv_aload_n C (pc' := 142) rfl (D 76 (141, .aload_n 0, 1) rfl) rfl (j := 2) rfl ?_
                refine cv_iload C (pc' := 144) rfl (D 77 (142, .iload 5, 2) rfl) (j := 0) rfl ?_
                refine cv_callV C (pc' := 147) rfl (k0 := 0) (ci := 7) (As := [.int (nI n)]) (rest := [.int (nI d), .ref 0]) (idx := 121) (np := 1) (kX7_takes L n τ2 hLτ2 hB hp) (by decide) rfl rfl rfl (by decide +kernel) rfl wmX7_121 wi_yX7_takes ws_yX7_takes wn_X7 wc_yX7_takes (by decide) (by decide) (D 78 (144, .invokevirtual 121, 3) rfl) (Nat.le_of_ble_eq_true rfl) rfl (fun w9 u9 h9 => ?_)
                rw [h9.1, h9.2]
                show cv_At X _ _ τ2 147 _ [.int (nI (cv_tk L n)), .int (nI d), .ref 0]
                refine cv_iaddN C (pc' := 148) rfl (D 79 (147, .iadd, 1) rfl) ?_
                refine cv_aload_n C (pc' := 149) rfl (D 80 (148, .aload_n 0, 1) rfl) rfl (j := 2) rfl ?_
                refine cv_iload C (pc' := 151) rfl (D 81 (149, .iload 5, 2) rfl) (j := 0) rfl ?_
                refine cv_iload_n C (pc' := 152) rfl (D 82 (151, .iload_n 2, 1) rfl) rfl (j := 4) rfl ?_
                refine cv_callV C (pc' := 155) rfl (k0 := 0) (ci := 7) (As := [.int (nI n), .int (nI v)]) (rest := [.int (nI (d + (cv_tk L n))), .ref 0]) (idx := 149) (np := 2) (kX7_over L n v τ2 hLτ2 hB hp hv) (by decide) rfl rfl rfl (by decide +kernel) rfl wmX7_149 wi_yX7_over ws_yX7_over wn_X7 wc_yX7_over (by decide) (by decide) (D 83 (152, .invokevirtual 149, 3) rfl) (Nat.le_of_ble_eq_true rfl) rfl (fun w9 u9 h9 => ?_)
                rw [h9.1, h9.2]
                show cv_At X _ _ τ2 155 _ [.int (cv_o (cv_oe L n v)), .int (nI (d + (cv_tk L n))), .ref 0]
                have hoe := cv_oe_le hB hp b136
                refine cv_top (w := nI z136) (congrArg cv_o b136) ?_
                refine cv_iload_n C (pc' := 156) rfl (D 84 (155, .iload_n 3, 1) rfl) rfl (j := 5) rfl ?_
                refine cv_iload C (pc' := 158) rfl (D 85 (156, .iload 4, 2) rfl) (j := 1) rfl ?_
                refine cv_callV C (pc' := 161) rfl (k0 := 0) (ci := 7) (As := [.int (nI (d + (cv_tk L n))), .int (nI z136), .int (nI r), .int (nI z17)]) (rest := []) (idx := 145) (np := 4) (kX7_comes (cv_gl L x d v r z17 (cv_cm S.1 (d + 1) v r (z17 + 1)) n) (d + (cv_tk L n)) z136 r z17 τ2 hTτ2 hzg (by omega) hr (by omega) (by omega)) (by decide) rfl rfl rfl (by decide +kernel) rfl wmX7_145 wi_yX7_comes ws_yX7_comes wn_X7 wc_yX7_comes (by decide) (by decide) (D 86 (158, .invokevirtual 145, 3) rfl) (Nat.le_of_ble_eq_true rfl) rfl (fun w158 u158 h158 => ?_)
                obtain ⟨e158, f158, t158⟩ := h158
                rw [e158]
                have hFu158 : cv_fw μ u158 := cv_fw_t hFτ2 (cv_fw_14 f158)
                have hLu158 := cv_LM_w hFu158 hL
                have hMu158 : u158 0 13 = x := by rw [hFu158.2 13 (by decide) (by decide)]; exact hM
                have hyu158 : u158 0 20 = cv_o o1 ∧ u158 0 21 = cv_o o2 := by rw [f158 0 (by decide)]; exact hyτ2
                show cv_At X _ _ u158 161 _ []
                refine cv_iincN C (pc' := 164) rfl (D 87 (161, .iinc 5 1, 3) rfl) (j := 0) rfl (by decide) (lv' := [(5, .int (nI (n + 1))), (4, .int (nI z17)), (0, .ref 0), (1, .int (nI d)), (2, .int (nI v)), (3, .int (nI r))]) rfl ?_
                refine cv_goto C (tgt := 108) (D 88 (164, .goto (-56), 3) rfl) (by decide) ?_
                exact ih108 (n + 1) u158 (by omega) hFu158 (by simp only [cv_gl]; unfold cv_gp; rw [if_pos b124, b136]; exact t158) hyu158
      exact LP108 (L 7 0) 0 u102 (by omega) hFu102 t102 hyu102
    refine cv_iconst C (pc' := 23) rfl (D 13 (22, .iconst 1, 1) rfl) (v := nI 1) (by decide) ?_
    refine cv_icmp_neN C (pc' := 26) rfl (by omega) (by omega) (tgt := 92) (D 14 (23, .if_icmp .ne 69, 3) rfl) (by decide) (fun b23 => ?_) (fun b23 => ?_)
    · skip
      exact J92 S.2.1 S.2.2 μ (by rw [if_neg (by intro h; omega)]) hS.1 hS.2.1 hS.2.2 (cv_fw_r μ)
    · skip
      refine cv_iload_n C (pc' := 27) rfl (D 15 (26, .iload_n 2, 1) rfl) rfl (j := 3) rfl ?_
      refine cv_iconst C (pc' := 28) rfl (D 16 (27, .iconst 2, 1) rfl) (v := nI 2) (by decide) ?_
      refine cv_icmp_neN C (pc' := 31) rfl (by omega) (by omega) (tgt := 92) (D 17 (28, .if_icmp .ne 64, 3) rfl) (by decide) (fun b28 => ?_) (fun b28 => ?_)
      · skip
        exact J92 S.2.1 S.2.2 μ (by rw [if_neg (by intro h; omega)]) hS.1 hS.2.1 hS.2.2 (cv_fw_r μ)
      · skip
        refine cv_aload_n C (pc' := 32) rfl (D 18 (31, .aload_n 0, 1) rfl) rfl (j := 1) rfl ?_
        refine cv_iconst C (pc' := 33) rfl (D 19 (32, .iconst 2, 1) rfl) (v := nI 2) (by decide) ?_
        refine cv_iload_n C (pc' := 34) rfl (D 20 (33, .iload_n 1, 1) rfl) rfl (j := 2) rfl ?_
        refine cv_callV C (pc' := 37) rfl (k0 := 0) (ci := 7) (As := [.int (nI 2), .int (nI d)]) (rest := []) (idx := 136) (np := 2) (kX7_doesGive L 2 d μ hL hB (by omega) (by omega)) (by decide) rfl rfl rfl (by decide +kernel) rfl wmX7_136 wi_yX7_doesGive ws_yX7_doesGive wn_X7 wc_yX7_doesGive (by decide) (by decide) (D 21 (34, .invokevirtual 136, 3) rfl) (Nat.le_of_ble_eq_true rfl) rfl (fun w9 u9 h9 => ?_)
        rw [h9.1, h9.2]
        show cv_At X _ _ μ 37 _ [.int (cv_b ((L 6 2).testBit d))]
        refine cv_if_eqB C (pc' := 40) rfl (tgt := 92) (D 22 (37, .ifCond .eq 55, 3) rfl) (by decide) (fun b37 => ?_) (fun b37 => ?_)
        · skip
          exact J92 S.2.1 S.2.2 μ (by rw [if_neg (fun h => by rw [h.2.2] at b37; cases b37)]) hS.1 hS.2.1 hS.2.2 (cv_fw_r μ)
        · skip
          refine cv_aload_n C (pc' := 41) rfl (D 23 (40, .aload_n 0, 1) rfl) rfl (j := 1) rfl ?_
          refine cv_aload_n C (pc' := 42) rfl (D 24 (41, .aload_n 0, 1) rfl) rfl (j := 1) rfl ?_
          refine cv_get C (pc' := 45) rfl (k0 := 0) (i := 20) (ci := 7) (by decide) rfl rfl (by decide) (o := none) rfl iw_X7 wfX7_139 (D 25 (42, .getfield 139, 3) rfl) (v := .int (cv_o S.2.1)) (congrArg Value.int hS.2.1) ?_
          refine cv_bipush C (pc' := 47) rfl (D 26 (45, .bipush (-9), 2) rfl) (v := -9) (by decide) ?_
          refine cv_icmp_neO C (pc' := 50) rfl (fun z h9 => by have := hz.2.1 z h9; omega) (tgt := 54) (D 27 (47, .if_icmp .ne 7, 3) rfl) (by decide) (fun z47 b47 => ?_) (fun b47 => ?_)
          · skip
            have hz47 := hz.2.1 _ b47
            refine cv_aload_n C (pc' := 55) rfl (D 30 (54, .aload_n 0, 1) rfl) rfl (j := 1) rfl ?_
            refine cv_get C (pc' := 58) rfl (k0 := 0) (i := 20) (ci := 7) (by decide) rfl rfl (by decide) (o := none) rfl iw_X7 wfX7_139 (D 31 (55, .getfield 139, 3) rfl) (v := .int (nI z47)) (congrArg Value.int (hS.2.1.trans (congrArg cv_o b47))) ?_
            refine cv_put C (pc' := 61) rfl (k0 := 0) (i := 20) (ci := 7) (by decide) rfl rfl (by decide) rfl iw_X7 tyX7 tyX7_ok nmX7 wfX7_139 rfl rfl rfl (D 32 (58, .putfield 139, 3) rfl) ?_
            refine cv_aload_n C (pc' := 62) rfl (D 33 (61, .aload_n 0, 1) rfl) rfl (j := 1) rfl ?_
            refine cv_aload_n C (pc' := 63) rfl (D 34 (62, .aload_n 0, 1) rfl) rfl (j := 1) rfl ?_
            refine cv_get C (pc' := 66) rfl (k0 := 0) (i := 21) (ci := 7) (by decide) rfl rfl (by decide) (o := none) rfl iw_X7 wfX7_142 (D 35 (63, .getfield 142, 3) rfl) (v := .int (cv_o S.2.2)) (congrArg Value.int ((cv_u_i (by omega)).trans hS.2.2)) ?_
            refine cv_bipush C (pc' := 68) rfl (D 36 (66, .bipush (-9), 2) rfl) (v := -9) (by decide) ?_
            refine cv_icmp_eqO C (pc' := 71) rfl (fun z h9 => by have := hz.2.2 z h9; omega) (tgt := 80) (D 37 (68, .if_icmp .eq 12, 3) rfl) (by decide) (fun b68 => ?_) (fun z68 b68 => ?_)
            · skip
              refine cv_iload C (pc' := 82) rfl (D 42 (80, .iload 4, 2) rfl) (j := 0) rfl ?_
              refine cv_goto C (tgt := 89) (D 43 (82, .goto 7, 3) rfl) (by decide) ?_
              refine cv_put C (pc' := 92) rfl (k0 := 0) (i := 21) (ci := 7) (by decide) rfl rfl (by decide) rfl iw_X7 tyX7 tyX7_ok nmX7 wfX7_142 rfl rfl rfl (D 46 (89, .putfield 142, 3) rfl) ?_
              exact J92 (some z47) (some z17) (cv_u (cv_u μ 0 20 (nI z47)) 0 21 (nI z17)) (by rw [if_pos ⟨by omega, by omega, b37⟩]; rw [show cv_kf S.2.1 d = (some z47) by rw [b47]; rfl, show cv_mn S.2.2 (some z17) = (some z17) by rw [b68]; rfl]) (fun j hj => by rw [cv_u_c (by decide), cv_u_c (by decide)]; exact hS.1 j hj) (by rw [cv_u_i (by decide)]; exact cv_u_s) cv_u_s ⟨fun k a b => by rw [cv_u_c a, cv_u_c a], fun i a b => by rw [cv_u_i b, cv_u_i a]⟩
            · skip
              have hz68 := hz.2.2 _ b68
              refine cv_iload C (pc' := 73) rfl (D 38 (71, .iload 4, 2) rfl) (j := 0) rfl ?_
              refine cv_aload_n C (pc' := 74) rfl (D 39 (73, .aload_n 0, 1) rfl) rfl (j := 1) rfl ?_
              refine cv_get C (pc' := 77) rfl (k0 := 0) (i := 21) (ci := 7) (by decide) rfl rfl (by decide) (o := none) rfl iw_X7 wfX7_142 (D 40 (74, .getfield 142, 3) rfl) (v := .int (nI z68)) (congrArg Value.int (((cv_u_i (by omega)).trans hS.2.2).trans (congrArg cv_o b68))) ?_
              refine cv_icmp_geN C (pc' := 80) rfl (by omega) (by omega) (tgt := 85) (D 41 (77, .if_icmp .ge 8, 3) rfl) (by decide) (fun b77 => ?_) (fun b77 => ?_)
              · skip
                refine cv_aload_n C (pc' := 86) rfl (D 44 (85, .aload_n 0, 1) rfl) rfl (j := 1) rfl ?_
                refine cv_get C (pc' := 89) rfl (k0 := 0) (i := 21) (ci := 7) (by decide) rfl rfl (by decide) (o := none) rfl iw_X7 wfX7_142 (D 45 (86, .getfield 142, 3) rfl) (v := .int (nI z68)) (congrArg Value.int (((cv_u_i (by omega)).trans hS.2.2).trans (congrArg cv_o b68))) ?_
                refine cv_put C (pc' := 92) rfl (k0 := 0) (i := 21) (ci := 7) (by decide) rfl rfl (by decide) rfl iw_X7 tyX7 tyX7_ok nmX7 wfX7_142 rfl rfl rfl (D 46 (89, .putfield 142, 3) rfl) ?_
                exact J92 (some z47) (some z68) (cv_u (cv_u μ 0 20 (nI z47)) 0 21 (nI z68)) (by rw [if_pos ⟨by omega, by omega, b37⟩]; rw [show cv_kf S.2.1 d = (some z47) by rw [b47]; rfl, show cv_mn S.2.2 (some z17) = (some z68) by rw [b68]; simp only [cv_mn]; rw [Nat.min_eq_left (by omega)]]) (fun j hj => by rw [cv_u_c (by decide), cv_u_c (by decide)]; exact hS.1 j hj) (by rw [cv_u_i (by decide)]; exact cv_u_s) cv_u_s ⟨fun k a b => by rw [cv_u_c a, cv_u_c a], fun i a b => by rw [cv_u_i b, cv_u_i a]⟩
              · skip
                refine cv_iload C (pc' := 82) rfl (D 42 (80, .iload 4, 2) rfl) (j := 0) rfl ?_
                refine cv_goto C (tgt := 89) (D 43 (82, .goto 7, 3) rfl) (by decide) ?_
                refine cv_put C (pc' := 92) rfl (k0 := 0) (i := 21) (ci := 7) (by decide) rfl rfl (by decide) rfl iw_X7 tyX7 tyX7_ok nmX7 wfX7_142 rfl rfl rfl (D 46 (89, .putfield 142, 3) rfl) ?_
                exact J92 (some z47) (some z17) (cv_u (cv_u μ 0 20 (nI z47)) 0 21 (nI z17)) (by rw [if_pos ⟨by omega, by omega, b37⟩]; rw [show cv_kf S.2.1 d = (some z47) by rw [b47]; rfl, show cv_mn S.2.2 (some z17) = (some z17) by rw [b68]; simp only [cv_mn]; rw [Nat.min_eq_right (by omega)]]) (fun j hj => by rw [cv_u_c (by decide), cv_u_c (by decide)]; exact hS.1 j hj) (by rw [cv_u_i (by decide)]; exact cv_u_s) cv_u_s ⟨fun k a b => by rw [cv_u_c a, cv_u_c a], fun i a b => by rw [cv_u_i b, cv_u_i a]⟩
          · skip
            refine cv_iload_n C (pc' := 51) rfl (D 28 (50, .iload_n 1, 1) rfl) rfl (j := 2) rfl ?_
            refine cv_goto C (tgt := 58) (D 29 (51, .goto 7, 3) rfl) (by decide) ?_
            refine cv_put C (pc' := 61) rfl (k0 := 0) (i := 20) (ci := 7) (by decide) rfl rfl (by decide) rfl iw_X7 tyX7 tyX7_ok nmX7 wfX7_139 rfl rfl rfl (D 32 (58, .putfield 139, 3) rfl) ?_
            refine cv_aload_n C (pc' := 62) rfl (D 33 (61, .aload_n 0, 1) rfl) rfl (j := 1) rfl ?_
            refine cv_aload_n C (pc' := 63) rfl (D 34 (62, .aload_n 0, 1) rfl) rfl (j := 1) rfl ?_
            refine cv_get C (pc' := 66) rfl (k0 := 0) (i := 21) (ci := 7) (by decide) rfl rfl (by decide) (o := none) rfl iw_X7 wfX7_142 (D 35 (63, .getfield 142, 3) rfl) (v := .int (cv_o S.2.2)) (congrArg Value.int ((cv_u_i (by omega)).trans hS.2.2)) ?_
            refine cv_bipush C (pc' := 68) rfl (D 36 (66, .bipush (-9), 2) rfl) (v := -9) (by decide) ?_
            refine cv_icmp_eqO C (pc' := 71) rfl (fun z h9 => by have := hz.2.2 z h9; omega) (tgt := 80) (D 37 (68, .if_icmp .eq 12, 3) rfl) (by decide) (fun b68 => ?_) (fun z68 b68 => ?_)
            · skip
              refine cv_iload C (pc' := 82) rfl (D 42 (80, .iload 4, 2) rfl) (j := 0) rfl ?_
              refine cv_goto C (tgt := 89) (D 43 (82, .goto 7, 3) rfl) (by decide) ?_
              refine cv_put C (pc' := 92) rfl (k0 := 0) (i := 21) (ci := 7) (by decide) rfl rfl (by decide) rfl iw_X7 tyX7 tyX7_ok nmX7 wfX7_142 rfl rfl rfl (D 46 (89, .putfield 142, 3) rfl) ?_
              exact J92 (some d) (some z17) (cv_u (cv_u μ 0 20 (nI d)) 0 21 (nI z17)) (by rw [if_pos ⟨by omega, by omega, b37⟩]; rw [show cv_kf S.2.1 d = (some d) by rw [b47]; rfl, show cv_mn S.2.2 (some z17) = (some z17) by rw [b68]; rfl]) (fun j hj => by rw [cv_u_c (by decide), cv_u_c (by decide)]; exact hS.1 j hj) (by rw [cv_u_i (by decide)]; exact cv_u_s) cv_u_s ⟨fun k a b => by rw [cv_u_c a, cv_u_c a], fun i a b => by rw [cv_u_i b, cv_u_i a]⟩
            · skip
              have hz68 := hz.2.2 _ b68
              refine cv_iload C (pc' := 73) rfl (D 38 (71, .iload 4, 2) rfl) (j := 0) rfl ?_
              refine cv_aload_n C (pc' := 74) rfl (D 39 (73, .aload_n 0, 1) rfl) rfl (j := 1) rfl ?_
              refine cv_get C (pc' := 77) rfl (k0 := 0) (i := 21) (ci := 7) (by decide) rfl rfl (by decide) (o := none) rfl iw_X7 wfX7_142 (D 40 (74, .getfield 142, 3) rfl) (v := .int (nI z68)) (congrArg Value.int (((cv_u_i (by omega)).trans hS.2.2).trans (congrArg cv_o b68))) ?_
              refine cv_icmp_geN C (pc' := 80) rfl (by omega) (by omega) (tgt := 85) (D 41 (77, .if_icmp .ge 8, 3) rfl) (by decide) (fun b77 => ?_) (fun b77 => ?_)
              · skip
                refine cv_aload_n C (pc' := 86) rfl (D 44 (85, .aload_n 0, 1) rfl) rfl (j := 1) rfl ?_
                refine cv_get C (pc' := 89) rfl (k0 := 0) (i := 21) (ci := 7) (by decide) rfl rfl (by decide) (o := none) rfl iw_X7 wfX7_142 (D 45 (86, .getfield 142, 3) rfl) (v := .int (nI z68)) (congrArg Value.int (((cv_u_i (by omega)).trans hS.2.2).trans (congrArg cv_o b68))) ?_
                refine cv_put C (pc' := 92) rfl (k0 := 0) (i := 21) (ci := 7) (by decide) rfl rfl (by decide) rfl iw_X7 tyX7 tyX7_ok nmX7 wfX7_142 rfl rfl rfl (D 46 (89, .putfield 142, 3) rfl) ?_
                exact J92 (some d) (some z68) (cv_u (cv_u μ 0 20 (nI d)) 0 21 (nI z68)) (by rw [if_pos ⟨by omega, by omega, b37⟩]; rw [show cv_kf S.2.1 d = (some d) by rw [b47]; rfl, show cv_mn S.2.2 (some z17) = (some z68) by rw [b68]; simp only [cv_mn]; rw [Nat.min_eq_left (by omega)]]) (fun j hj => by rw [cv_u_c (by decide), cv_u_c (by decide)]; exact hS.1 j hj) (by rw [cv_u_i (by decide)]; exact cv_u_s) cv_u_s ⟨fun k a b => by rw [cv_u_c a, cv_u_c a], fun i a b => by rw [cv_u_i b, cv_u_i a]⟩
              · skip
                refine cv_iload C (pc' := 82) rfl (D 42 (80, .iload 4, 2) rfl) (j := 0) rfl ?_
                refine cv_goto C (tgt := 89) (D 43 (82, .goto 7, 3) rfl) (by decide) ?_
                refine cv_put C (pc' := 92) rfl (k0 := 0) (i := 21) (ci := 7) (by decide) rfl rfl (by decide) rfl iw_X7 tyX7 tyX7_ok nmX7 wfX7_142 rfl rfl rfl (D 46 (89, .putfield 142, 3) rfl) ?_
                exact J92 (some d) (some z17) (cv_u (cv_u μ 0 20 (nI d)) 0 21 (nI z17)) (by rw [if_pos ⟨by omega, by omega, b37⟩]; rw [show cv_kf S.2.1 d = (some d) by rw [b47]; rfl, show cv_mn S.2.2 (some z17) = (some z17) by rw [b68]; simp only [cv_mn]; rw [Nat.min_eq_right (by omega)]]) (fun j hj => by rw [cv_u_c (by decide), cv_u_c (by decide)]; exact hS.1 j hj) (by rw [cv_u_i (by decide)]; exact cv_u_s) cv_u_s ⟨fun k a b => by rw [cv_u_c a, cv_u_c a], fun i a b => by rw [cv_u_i b, cv_u_i a]⟩
  · skip
    exact cv_vret C Rt (D 11 (20, .return_, 1) rfl) ⟨rfl, cv_fw_r μ, by unfold cv_g1; rw [b17]; exact hS⟩

