set_option maxHeartbeats 4000000 in
set_option maxRecDepth 100000 in
theorem kX6_isBelow {n : Nat} {sh : Nat → cv_Sh} (x : Int32) (m : Nat) (σ : cv_St)  : cv_Ct yX6_isBelow cX6_isBelow 2 (some .boolean) 0 0 0 n sh [.int x, .int (nI m)] σ (cv_pu (.int (cv_b (cv_in x m))) σ) := by
  refine cv_enter (own := RX6) (by decide) rfl (Nat.le_of_ble_eq_true rfl) ?_
  intro X a C Rt hRm
  have D := @cv_dec _ _ dkX6_isBelow
  show cv_At X _ _ σ 0 [(0, .int x), (1, .int (nI m))] []
  refine cv_iload_n C (pc' := 1) rfl (D 0 (0, .iload_n 0, 1) rfl) rfl (j := 0) rfl ?_
  refine cv_if_lt C (pc' := 4) rfl (tgt := 13) (D 1 (1, .ifCond .lt 12, 3) rfl) (by decide) (fun b1 => ?_) (fun b1 => ?_)
  · skip
    refine cv_iconst C (pc' := 14) rfl (D 7 (13, .iconst 0, 1) rfl) (v := nI 0) (by decide) ?_
    exact cv_iret C Rt (by decide) (D 8 (14, .ireturn, 1) rfl) ⟨congrArg (fun z => some (Value.int z)) (by rw [cv_in, decide_eq_false (fun h => h.1 b1)]; rfl), rfl⟩
  · skip
    refine cv_iload_n C (pc' := 5) rfl (D 2 (4, .iload_n 0, 1) rfl) rfl (j := 0) rfl ?_
    refine cv_iload_n C (pc' := 6) rfl (D 3 (5, .iload_n 1, 1) rfl) rfl (j := 1) rfl ?_
    refine cv_icmp_ge C (pc' := 9) rfl (tgt := 13) (D 4 (6, .if_icmp .ge 7, 3) rfl) (by decide) (fun b6 => ?_) (fun b6 => ?_)
    · skip
      refine cv_iconst C (pc' := 14) rfl (D 7 (13, .iconst 0, 1) rfl) (v := nI 0) (by decide) ?_
      exact cv_iret C Rt (by decide) (D 8 (14, .ireturn, 1) rfl) ⟨congrArg (fun z => some (Value.int z)) (by rw [cv_in, decide_eq_false (fun h => absurd h.2 (Int32.not_lt.mpr b6))]; rfl), rfl⟩
    · skip
      refine cv_iconst C (pc' := 10) rfl (D 5 (9, .iconst 1, 1) rfl) (v := nI 1) (by decide) ?_
      refine cv_goto C (tgt := 14) (D 6 (10, .goto 4, 3) rfl) (by decide) ?_
      exact cv_iret C Rt (by decide) (D 8 (14, .ireturn, 1) rfl) ⟨congrArg (fun z => some (Value.int z)) (by rw [cv_in, decide_eq_true ⟨b1, Int32.not_le.mp b6⟩]; rfl), rfl⟩

set_option maxHeartbeats 4000000 in
set_option maxRecDepth 100000 in
theorem kX6_isDay {n : Nat} {sh : Nat → cv_Sh} (x : Int32) (σ : cv_St)  : cv_Ct yX6_isDay cX6_isDay 1 (some .boolean) 1 0 0 n sh [.int x] σ (cv_pu (.int (cv_b (cv_in x 8))) σ) := by
  refine cv_enter (own := RX6) (by decide) rfl (Nat.le_of_ble_eq_true rfl) ?_
  intro X a C Rt hRm
  have D := @cv_dec _ _ dkX6_isDay
  show cv_At X _ _ σ 0 [(0, .int x)] []
  refine cv_iload_n C (pc' := 1) rfl (D 0 (0, .iload_n 0, 1) rfl) rfl (j := 0) rfl ?_
  refine cv_bipush C (pc' := 3) rfl (D 1 (1, .bipush 8, 2) rfl) (v := nI 8) (by decide) ?_
  refine cv_callS C (pc' := 6) rfl (As := [.int x, .int (nI 8)]) (rest := []) (idx := 111) (np := 2) (kX6_isBelow x 8 σ) (by decide +kernel) rfl wmX6_111 wt_yX6_isBelow wn_X6 wc_yX6_isBelow (by decide) (by decide) (D 2 (3, .invokestatic 111, 3) rfl) (Nat.le_of_ble_eq_true rfl) rfl (fun w9 u9 h9 => ?_)
  rw [h9.1, h9.2]
  show cv_At X _ _ σ 6 _ [.int (cv_b (cv_in x 8))]
  exact cv_iret C Rt (cv_b_nar _) (D 3 (6, .ireturn, 1) rfl) ⟨rfl, rfl⟩

set_option maxHeartbeats 4000000 in
set_option maxRecDepth 100000 in
theorem kX6_isValley {n : Nat} {sh : Nat → cv_Sh} (x : Int32) (σ : cv_St)  : cv_Ct yX6_isValley cX6_isValley 1 (some .boolean) 1 0 0 n sh [.int x] σ (cv_pu (.int (cv_b (cv_in x 3))) σ) := by
  refine cv_enter (own := RX6) (by decide) rfl (Nat.le_of_ble_eq_true rfl) ?_
  intro X a C Rt hRm
  have D := @cv_dec _ _ dkX6_isValley
  show cv_At X _ _ σ 0 [(0, .int x)] []
  refine cv_iload_n C (pc' := 1) rfl (D 0 (0, .iload_n 0, 1) rfl) rfl (j := 0) rfl ?_
  refine cv_iconst C (pc' := 2) rfl (D 1 (1, .iconst 3, 1) rfl) (v := nI 3) (by decide) ?_
  refine cv_callS C (pc' := 5) rfl (As := [.int x, .int (nI 3)]) (rest := []) (idx := 111) (np := 2) (kX6_isBelow x 3 σ) (by decide +kernel) rfl wmX6_111 wt_yX6_isBelow wn_X6 wc_yX6_isBelow (by decide) (by decide) (D 2 (2, .invokestatic 111, 3) rfl) (Nat.le_of_ble_eq_true rfl) rfl (fun w9 u9 h9 => ?_)
  rw [h9.1, h9.2]
  show cv_At X _ _ σ 5 _ [.int (cv_b (cv_in x 3))]
  exact cv_iret C Rt (cv_b_nar _) (D 3 (5, .ireturn, 1) rfl) ⟨rfl, rfl⟩

set_option maxHeartbeats 4000000 in
set_option maxRecDepth 100000 in
theorem kX6_isSheet {n : Nat} {sh : Nat → cv_Sh} (x : Int32) (σ : cv_St)  : cv_Ct yX6_isSheet cX6_isSheet 1 (some .boolean) 1 0 0 n sh [.int x] σ (cv_pu (.int (cv_b (cv_in x 4))) σ) := by
  refine cv_enter (own := RX6) (by decide) rfl (Nat.le_of_ble_eq_true rfl) ?_
  intro X a C Rt hRm
  have D := @cv_dec _ _ dkX6_isSheet
  show cv_At X _ _ σ 0 [(0, .int x)] []
  refine cv_iload_n C (pc' := 1) rfl (D 0 (0, .iload_n 0, 1) rfl) rfl (j := 0) rfl ?_
  refine cv_iconst C (pc' := 2) rfl (D 1 (1, .iconst 4, 1) rfl) (v := nI 4) (by decide) ?_
  refine cv_callS C (pc' := 5) rfl (As := [.int x, .int (nI 4)]) (rest := []) (idx := 111) (np := 2) (kX6_isBelow x 4 σ) (by decide +kernel) rfl wmX6_111 wt_yX6_isBelow wn_X6 wc_yX6_isBelow (by decide) (by decide) (D 2 (2, .invokestatic 111, 3) rfl) (Nat.le_of_ble_eq_true rfl) rfl (fun w9 u9 h9 => ?_)
  rw [h9.1, h9.2]
  show cv_At X _ _ σ 5 _ [.int (cv_b (cv_in x 4))]
  exact cv_iret C Rt (cv_b_nar _) (D 3 (5, .ireturn, 1) rfl) ⟨rfl, rfl⟩

set_option maxHeartbeats 4000000 in
set_option maxRecDepth 100000 in
theorem kX6_isLane {n : Nat} {sh : Nat → cv_Sh} (x : Int32) (σ : cv_St)  : cv_Ct yX6_isLane cX6_isLane 1 (some .boolean) 1 0 0 n sh [.int x] σ (cv_pu (.int (cv_b (cv_in x 3))) σ) := by
  refine cv_enter (own := RX6) (by decide) rfl (Nat.le_of_ble_eq_true rfl) ?_
  intro X a C Rt hRm
  have D := @cv_dec _ _ dkX6_isLane
  show cv_At X _ _ σ 0 [(0, .int x)] []
  refine cv_iload_n C (pc' := 1) rfl (D 0 (0, .iload_n 0, 1) rfl) rfl (j := 0) rfl ?_
  refine cv_iconst C (pc' := 2) rfl (D 1 (1, .iconst 3, 1) rfl) (v := nI 3) (by decide) ?_
  refine cv_callS C (pc' := 5) rfl (As := [.int x, .int (nI 3)]) (rest := []) (idx := 111) (np := 2) (kX6_isBelow x 3 σ) (by decide +kernel) rfl wmX6_111 wt_yX6_isBelow wn_X6 wc_yX6_isBelow (by decide) (by decide) (D 2 (2, .invokestatic 111, 3) rfl) (Nat.le_of_ble_eq_true rfl) rfl (fun w9 u9 h9 => ?_)
  rw [h9.1, h9.2]
  show cv_At X _ _ σ 5 _ [.int (cv_b (cv_in x 3))]
  exact cv_iret C Rt (cv_b_nar _) (D 3 (5, .ireturn, 1) rfl) ⟨rfl, rfl⟩

set_option maxHeartbeats 4000000 in
set_option maxRecDepth 100000 in
theorem kX6_hasDay {n : Nat} {sh : Nat → cv_Sh} (t i : Nat) (σ : cv_St) (ht : t < 2 ^ 31) (hi : i < 32) : cv_Ct yX6_hasDay cX6_hasDay 2 (some .boolean) 0 0 0 n sh [.int (nI t), .int (nI i)] σ (cv_pu (.int (cv_b (t.testBit i))) σ) := by
  refine cv_enter (own := RX6) (by decide) rfl (Nat.le_of_ble_eq_true rfl) ?_
  intro X a C Rt hRm
  have D := @cv_dec _ _ dkX6_hasDay
  show cv_At X _ _ σ 0 [(0, .int (nI t)), (1, .int (nI i))] []
  refine cv_iload_n C (pc' := 1) rfl (D 0 (0, .iload_n 0, 1) rfl) rfl (j := 0) rfl ?_
  refine cv_iload_n C (pc' := 2) rfl (D 1 (1, .iload_n 1, 1) rfl) rfl (j := 1) rfl ?_
  refine cv_ishrN C (pc' := 3) rfl (by omega) (by omega) (D 2 (2, .ishr, 1) rfl) ?_
  refine cv_iconst C (pc' := 4) rfl (D 3 (3, .iconst 1, 1) rfl) (v := nI 1) (by decide) ?_
  refine cv_iandN C (pc' := 5) rfl (D 4 (4, .iand, 1) rfl) ?_
  have hb1 := cv_tb_lt t i
  refine cv_if_eqN C (pc' := 8) rfl (by omega) (tgt := 12) (D 5 (5, .ifCond .eq 7, 3) rfl) (by decide) (fun b5 => ?_) (fun b5 => ?_)
  · skip
    refine cv_iconst C (pc' := 13) rfl (D 8 (12, .iconst 0, 1) rfl) (v := nI 0) (by decide) ?_
    exact cv_iret C Rt (by decide) (D 9 (13, .ireturn, 1) rfl) ⟨congrArg (fun z => some (Value.int z)) (by rw [cv_tb0 b5]; rfl), rfl⟩
  · skip
    refine cv_iconst C (pc' := 9) rfl (D 6 (8, .iconst 1, 1) rfl) (v := nI 1) (by decide) ?_
    refine cv_goto C (tgt := 13) (D 7 (9, .goto 4, 3) rfl) (by decide) ?_
    exact cv_iret C Rt (by decide) (D 9 (13, .ireturn, 1) rfl) ⟨congrArg (fun z => some (Value.int z)) (by rw [cv_tb1 (Nat.pos_iff_ne_zero.mp b5)]; rfl), rfl⟩

set_option maxHeartbeats 4000000 in
set_option maxRecDepth 100000 in
theorem kX6_isPass (x : Int32) (L : cv_L) (σ : cv_St) (hL : cv_LC L σ) : cv_Ct yX6_isPass cX6_isPass 2 (some .boolean) 1 0 0 26 cv_shC [.ref 0, .int x] σ (cv_pu (.int (cv_b (cv_in x (L 7 0)))) σ) := by
  refine cv_enter (own := RX6) (by decide) rfl (Nat.le_of_ble_eq_true rfl) ?_
  intro X a C Rt hRm
  have D := @cv_dec _ _ dkX6_isPass
  show cv_At X _ _ σ 0 [(0, .ref 0), (1, .int x)] []
  refine cv_iload_n C (pc' := 1) rfl (D 0 (0, .iload_n 1, 1) rfl) rfl (j := 1) rfl ?_
  refine cv_aload_n C (pc' := 2) rfl (D 1 (1, .aload_n 0, 1) rfl) rfl (j := 0) rfl ?_
  refine cv_get C (pc' := 5) rfl (k0 := 0) (i := 1) (ci := 6) (by decide) rfl rfl (by decide) (o := some 10) rfl iw_X6 wfX6_21 (D 2 (2, .getfield 21, 3) rfl) rfl ?_
  refine cv_get C (pc' := 8) rfl (k0 := 10) (i := 6) (ci := 0) (by decide) rfl rfl (by decide) (o := none) rfl iw_X0 wfX6_78 (D 3 (5, .getfield 78, 3) rfl) (v := .int (nI (L 7 0))) (congrArg Value.int hL.1) ?_
  refine cv_callS C (pc' := 11) rfl (As := [.int x, .int (nI (L 7 0))]) (rest := []) (idx := 111) (np := 2) (kX6_isBelow x (L 7 0) σ) (by decide +kernel) rfl wmX6_111 wt_yX6_isBelow wn_X6 wc_yX6_isBelow (by decide) (by decide) (D 4 (8, .invokestatic 111, 3) rfl) (Nat.le_of_ble_eq_true rfl) rfl (fun w9 u9 h9 => ?_)
  rw [h9.1, h9.2]
  show cv_At X _ _ σ 11 _ [.int (cv_b (cv_in x (L 7 0)))]
  exact cv_iret C Rt (cv_b_nar _) (D 5 (11, .ireturn, 1) rfl) ⟨rfl, rfl⟩

set_option maxHeartbeats 4000000 in
set_option maxRecDepth 100000 in
theorem kX6_failed (f : Nat) (σ : cv_St)  : cv_Ct yX6_failed cX6_failed 2 (some .int) 0 0 0 26 cv_shC [.ref 0, .int (nI f)] σ (fun v u => v = some (.int (-10 - nI f)) ∧ u = cv_u σ 0 5 (nI f)) := by
  refine cv_enter (own := RX6) (by decide) rfl (Nat.le_of_ble_eq_true rfl) ?_
  intro X a C Rt hRm
  have D := @cv_dec _ _ dkX6_failed
  show cv_At X _ _ σ 0 [(0, .ref 0), (1, .int (nI f))] []
  refine cv_aload_n C (pc' := 1) rfl (D 0 (0, .aload_n 0, 1) rfl) rfl (j := 0) rfl ?_
  refine cv_iload_n C (pc' := 2) rfl (D 1 (1, .iload_n 1, 1) rfl) rfl (j := 1) rfl ?_
  refine cv_put C (pc' := 5) rfl (k0 := 0) (i := 5) (ci := 6) (by decide) rfl rfl (by decide) rfl iw_X6 tyX6 tyX6_ok nmX6 wfX6_39 rfl rfl rfl (D 2 (2, .putfield 39, 3) rfl) ?_
  refine cv_bipush C (pc' := 7) rfl (D 3 (5, .bipush (-10), 2) rfl) (v := -10) (by decide) ?_
  refine cv_iload_n C (pc' := 8) rfl (D 4 (7, .iload_n 1, 1) rfl) rfl (j := 1) rfl ?_
  refine cv_isub C (pc' := 9) rfl (D 5 (8, .isub, 1) rfl) ?_
  exact cv_iret C Rt rfl (D 6 (9, .ireturn, 1) rfl) ⟨rfl, rfl⟩

set_option maxHeartbeats 4000000 in
set_option maxRecDepth 100000 in
theorem kX6_leave (f : Nat) (σ : cv_St)  : cv_Ct yX6_leave cX6_leave 2 none 0 0 0 26 cv_shC [.ref 0, .int (nI f)] σ (fun v u => v = none ∧ u = cv_u σ 0 4 (nI 31 * σ 0 4 + nI f)) := by
  refine cv_enter (own := RX6) (by decide) rfl (Nat.le_of_ble_eq_true rfl) ?_
  intro X a C Rt hRm
  have D := @cv_dec _ _ dkX6_leave
  show cv_At X _ _ σ 0 [(0, .ref 0), (1, .int (nI f))] []
  refine cv_aload_n C (pc' := 1) rfl (D 0 (0, .aload_n 0, 1) rfl) rfl (j := 0) rfl ?_
  refine cv_bipush C (pc' := 3) rfl (D 1 (1, .bipush 31, 2) rfl) (v := nI 31) (by decide) ?_
  refine cv_aload_n C (pc' := 4) rfl (D 2 (3, .aload_n 0, 1) rfl) rfl (j := 0) rfl ?_
  refine cv_get C (pc' := 7) rfl (k0 := 0) (i := 4) (ci := 6) (by decide) rfl rfl (by decide) (o := none) rfl iw_X6 wfX6_228 (D 3 (4, .getfield 228, 3) rfl) (v := .int (σ 0 4)) rfl ?_
  refine cv_imul C (pc' := 8) rfl (D 4 (7, .imul, 1) rfl) ?_
  refine cv_iload_n C (pc' := 9) rfl (D 5 (8, .iload_n 1, 1) rfl) rfl (j := 1) rfl ?_
  refine cv_iadd C (pc' := 10) rfl (D 6 (9, .iadd, 1) rfl) ?_
  refine cv_put C (pc' := 13) rfl (k0 := 0) (i := 4) (ci := 6) (by decide) rfl rfl (by decide) rfl iw_X6 tyX6 tyX6_ok nmX6 wfX6_228 rfl rfl rfl (D 7 (10, .putfield 228, 3) rfl) ?_
  exact cv_vret C Rt (D 8 (13, .return_, 1) rfl) ⟨rfl, rfl⟩

set_option maxHeartbeats 4000000 in
set_option maxRecDepth 100000 in
theorem kX1_takes (L : cv_L) (p : Nat) (σ : cv_St) (hL : cv_LC L σ) (hB : cv_LB L) (hp : p < L 7 0) : cv_Ct yX1_takes cX1_takes 1 (some .int) 0 0 0 26 cv_shC [.ref (12 + p)] σ (cv_pu (.int (nI (cv_tk L p))) σ) := by
  refine cv_enter (own := RX1) (by decide) rfl (Nat.le_of_ble_eq_true rfl) ?_
  intro X a C Rt hRm
  have D := @cv_dec _ _ dkX1_takes
  have hp6 : p < 6 := Nat.lt_of_lt_of_le hp hB.1
  obtain ⟨g0, g1, g2, g3, g4⟩ := hB.2.1 p hp
  show cv_At X _ _ σ 0 [(0, .ref (12 + p))] []
  refine cv_aload_n C (pc' := 1) rfl (D 0 (0, .aload_n 0, 1) rfl) rfl (j := 0) rfl ?_
  refine cv_get C (pc' := 4) rfl (k0 := 12 + p) (i := 0) (ci := 1) (cv_lt_p hp6) (cv_shC_p hp6) rfl (by decide) (o := none) rfl iw_X1 wfX1_9 (D 1 (1, .getfield 9, 3) rfl) (v := .int (nI (L 0 p))) (congrArg Value.int (hL.2.2.2 p hp 0 (by decide))) ?_
  have hk : L 0 p = 0 ∨ L 0 p = 1 ∨ L 0 p = 2 := by omega
  rcases hk with hk | hk | hk
  · skip
    refine cv_top (w := nI 0) (congrArg nI hk) ?_
    refine cv_lookup C (D 2 (4, .lookupswitch 49 #[(1, 28), (2, 35)], 28) rfl) (off := 49) (tgt := 53) (by decide) (by decide) (by decide) ?_
    refine cv_aload_n C (pc' := 54) rfl (D 18 (53, .aload_n 0, 1) rfl) rfl (j := 0) rfl ?_
    refine cv_get C (pc' := 57) rfl (k0 := 12 + p) (i := 3) (ci := 1) (cv_lt_p hp6) (cv_shC_p hp6) rfl (by decide) (o := none) rfl iw_X1 wfX1_15 (D 19 (54, .getfield 15, 3) rfl) (v := .int (nI (L 3 p))) (congrArg Value.int (hL.2.2.2 p hp 3 (by decide))) ?_
    exact cv_iret C Rt rfl (D 20 (57, .ireturn, 1) rfl) ⟨congrArg (fun z => some (Value.int z)) (by congr 1; unfold cv_tk; simp only [hk]; simp), rfl⟩
  · skip
    refine cv_top (w := nI 1) (congrArg nI hk) ?_
    refine cv_lookup C (D 2 (4, .lookupswitch 49 #[(1, 28), (2, 35)], 28) rfl) (off := 28) (tgt := 32) (by decide) (by decide) (by decide) ?_
    refine cv_aload_n C (pc' := 33) rfl (D 3 (32, .aload_n 0, 1) rfl) rfl (j := 0) rfl ?_
    refine cv_get C (pc' := 36) rfl (k0 := 12 + p) (i := 3) (ci := 1) (cv_lt_p hp6) (cv_shC_p hp6) rfl (by decide) (o := none) rfl iw_X1 wfX1_15 (D 4 (33, .getfield 15, 3) rfl) (v := .int (nI (L 3 p))) (congrArg Value.int (hL.2.2.2 p hp 3 (by decide))) ?_
    refine cv_iconst C (pc' := 37) rfl (D 5 (36, .iconst 1, 1) rfl) (v := nI 1) (by decide) ?_
    refine cv_iaddN C (pc' := 38) rfl (D 6 (37, .iadd, 1) rfl) ?_
    exact cv_iret C Rt rfl (D 7 (38, .ireturn, 1) rfl) ⟨congrArg (fun z => some (Value.int z)) (by congr 1; unfold cv_tk; simp only [hk]; simp), rfl⟩
  · skip
    refine cv_top (w := nI 2) (congrArg nI hk) ?_
    refine cv_lookup C (D 2 (4, .lookupswitch 49 #[(1, 28), (2, 35)], 28) rfl) (off := 35) (tgt := 39) (by decide) (by decide) (by decide) ?_
    refine cv_aload_n C (pc' := 40) rfl (D 8 (39, .aload_n 0, 1) rfl) rfl (j := 0) rfl ?_
    refine cv_get C (pc' := 43) rfl (k0 := 12 + p) (i := 3) (ci := 1) (cv_lt_p hp6) (cv_shC_p hp6) rfl (by decide) (o := none) rfl iw_X1 wfX1_15 (D 9 (40, .getfield 15, 3) rfl) (v := .int (nI (L 3 p))) (congrArg Value.int (hL.2.2.2 p hp 3 (by decide))) ?_
    refine cv_iconst C (pc' := 44) rfl (D 10 (43, .iconst 2, 1) rfl) (v := nI 2) (by decide) ?_
    refine cv_idivN C (pc' := 45) rfl (by omega) (by decide) (by decide) (D 11 (44, .idiv, 1) rfl) ?_
    refine cv_aload_n C (pc' := 46) rfl (D 12 (45, .aload_n 0, 1) rfl) rfl (j := 0) rfl ?_
    refine cv_get C (pc' := 49) rfl (k0 := 12 + p) (i := 3) (ci := 1) (cv_lt_p hp6) (cv_shC_p hp6) rfl (by decide) (o := none) rfl iw_X1 wfX1_15 (D 13 (46, .getfield 15, 3) rfl) (v := .int (nI (L 3 p))) (congrArg Value.int (hL.2.2.2 p hp 3 (by decide))) ?_
    refine cv_iconst C (pc' := 50) rfl (D 14 (49, .iconst 2, 1) rfl) (v := nI 2) (by decide) ?_
    refine cv_iremN C (pc' := 51) rfl (by omega) (by decide) (by decide) (D 15 (50, .irem, 1) rfl) ?_
    refine cv_iaddN C (pc' := 52) rfl (D 16 (51, .iadd, 1) rfl) ?_
    exact cv_iret C Rt rfl (D 17 (52, .ireturn, 1) rfl) ⟨congrArg (fun z => some (Value.int z)) (by congr 1; unfold cv_tk; simp only [hk]; simp; omega), rfl⟩

set_option maxHeartbeats 4000000 in
set_option maxRecDepth 100000 in
theorem kX1_isOpenIn (L : cv_L) (p w : Nat) (σ : cv_St) (hL : cv_LC L σ) (hB : cv_LB L) (hp : p < L 7 0) (hw : w ≤ 9) : cv_Ct yX1_isOpenIn cX1_isOpenIn 2 (some .boolean) 0 0 0 26 cv_shC [.ref (12 + p), .int (nI w)] σ (cv_pu (.int (cv_b (decide (L 0 p = 2 ∨ w < L 4 p)))) σ) := by
  refine cv_enter (own := RX1) (by decide) rfl (Nat.le_of_ble_eq_true rfl) ?_
  intro X a C Rt hRm
  have D := @cv_dec _ _ dkX1_isOpenIn
  have hp6 : p < 6 := Nat.lt_of_lt_of_le hp hB.1
  obtain ⟨g0, g1, g2, g3, g4⟩ := hB.2.1 p hp
  show cv_At X _ _ σ 0 [(0, .ref (12 + p)), (1, .int (nI w))] []
  refine cv_aload_n C (pc' := 1) rfl (D 0 (0, .aload_n 0, 1) rfl) rfl (j := 0) rfl ?_
  refine cv_get C (pc' := 4) rfl (k0 := 12 + p) (i := 0) (ci := 1) (cv_lt_p hp6) (cv_shC_p hp6) rfl (by decide) (o := none) rfl iw_X1 wfX1_9 (D 1 (1, .getfield 9, 3) rfl) (v := .int (nI (L 0 p))) (congrArg Value.int (hL.2.2.2 p hp 0 (by decide))) ?_
  refine cv_iconst C (pc' := 5) rfl (D 2 (4, .iconst 2, 1) rfl) (v := nI 2) (by decide) ?_
  refine cv_icmp_eqN C (pc' := 8) rfl (by omega) (by omega) (tgt := 16) (D 3 (5, .if_icmp .eq 11, 3) rfl) (by decide) (fun b5 => ?_) (fun b5 => ?_)
  · skip
    refine cv_iconst C (pc' := 17) rfl (D 8 (16, .iconst 1, 1) rfl) (v := nI 1) (by decide) ?_
    refine cv_goto C (tgt := 21) (D 9 (17, .goto 4, 3) rfl) (by decide) ?_
    exact cv_iret C Rt (by decide) (D 11 (21, .ireturn, 1) rfl) ⟨congrArg (fun z => some (Value.int z)) (by rw [decide_eq_true (by omega)]; rfl), rfl⟩
  · skip
    refine cv_aload_n C (pc' := 9) rfl (D 4 (8, .aload_n 0, 1) rfl) rfl (j := 0) rfl ?_
    refine cv_get C (pc' := 12) rfl (k0 := 12 + p) (i := 4) (ci := 1) (cv_lt_p hp6) (cv_shC_p hp6) rfl (by decide) (o := none) rfl iw_X1 wfX1_18 (D 5 (9, .getfield 18, 3) rfl) (v := .int (nI (L 4 p))) (congrArg Value.int (hL.2.2.2 p hp 4 (by decide))) ?_
    refine cv_iload_n C (pc' := 13) rfl (D 6 (12, .iload_n 1, 1) rfl) rfl (j := 1) rfl ?_
    refine cv_icmp_leN C (pc' := 16) rfl (by omega) (by omega) (tgt := 20) (D 7 (13, .if_icmp .le 7, 3) rfl) (by decide) (fun b13 => ?_) (fun b13 => ?_)
    · skip
      refine cv_iconst C (pc' := 21) rfl (D 10 (20, .iconst 0, 1) rfl) (v := nI 0) (by decide) ?_
      exact cv_iret C Rt (by decide) (D 11 (21, .ireturn, 1) rfl) ⟨congrArg (fun z => some (Value.int z)) (by rw [decide_eq_false (by omega)]; rfl), rfl⟩
    · skip
      refine cv_iconst C (pc' := 17) rfl (D 8 (16, .iconst 1, 1) rfl) (v := nI 1) (by decide) ?_
      refine cv_goto C (tgt := 21) (D 9 (17, .goto 4, 3) rfl) (by decide) ?_
      exact cv_iret C Rt (by decide) (D 11 (21, .ireturn, 1) rfl) ⟨congrArg (fun z => some (Value.int z)) (by rw [decide_eq_true (by omega)]; rfl), rfl⟩

set_option maxHeartbeats 4000000 in
set_option maxRecDepth 100000 in
theorem kX1_otherEnd (L : cv_L) (p v : Nat) (σ : cv_St) (hL : cv_LC L σ) (hB : cv_LB L) (hp : p < L 7 0) (hv : v < 3) : cv_Ct yX1_otherEnd cX1_otherEnd 2 (some .int) 0 0 0 26 cv_shC [.ref (12 + p), .int (nI v)] σ (cv_pu (.int (cv_o (cv_oe L p v))) σ) := by
  refine cv_enter (own := RX1) (by decide) rfl (Nat.le_of_ble_eq_true rfl) ?_
  intro X a C Rt hRm
  have D := @cv_dec _ _ dkX1_otherEnd
  have hp6 : p < 6 := Nat.lt_of_lt_of_le hp hB.1
  obtain ⟨g0, g1, g2, g3, g4⟩ := hB.2.1 p hp
  show cv_At X _ _ σ 0 [(0, .ref (12 + p)), (1, .int (nI v))] []
  refine cv_iload_n C (pc' := 1) rfl (D 0 (0, .iload_n 1, 1) rfl) rfl (j := 1) rfl ?_
  refine cv_aload_n C (pc' := 2) rfl (D 1 (1, .aload_n 0, 1) rfl) rfl (j := 0) rfl ?_
  refine cv_get C (pc' := 5) rfl (k0 := 12 + p) (i := 1) (ci := 1) (cv_lt_p hp6) (cv_shC_p hp6) rfl (by decide) (o := none) rfl iw_X1 wfX1_21 (D 2 (2, .getfield 21, 3) rfl) (v := .int (nI (L 1 p))) (congrArg Value.int (hL.2.2.2 p hp 1 (by decide))) ?_
  refine cv_icmp_neN C (pc' := 8) rfl (by omega) (by omega) (tgt := 13) (D 3 (5, .if_icmp .ne 8, 3) rfl) (by decide) (fun b5 => ?_) (fun b5 => ?_)
  · skip
    refine cv_iload_n C (pc' := 14) rfl (D 7 (13, .iload_n 1, 1) rfl) rfl (j := 1) rfl ?_
    refine cv_aload_n C (pc' := 15) rfl (D 8 (14, .aload_n 0, 1) rfl) rfl (j := 0) rfl ?_
    refine cv_get C (pc' := 18) rfl (k0 := 12 + p) (i := 2) (ci := 1) (cv_lt_p hp6) (cv_shC_p hp6) rfl (by decide) (o := none) rfl iw_X1 wfX1_24 (D 9 (15, .getfield 24, 3) rfl) (v := .int (nI (L 2 p))) (congrArg Value.int (hL.2.2.2 p hp 2 (by decide))) ?_
    refine cv_icmp_neN C (pc' := 21) rfl (by omega) (by omega) (tgt := 28) (D 10 (18, .if_icmp .ne 10, 3) rfl) (by decide) (fun b18 => ?_) (fun b18 => ?_)
    · skip
      refine cv_bipush C (pc' := 30) rfl (D 14 (28, .bipush (-9), 2) rfl) (v := -9) (by decide) ?_
      exact cv_iret C Rt rfl (D 15 (30, .ireturn, 1) rfl) ⟨congrArg (fun z => some (Value.int z)) (by unfold cv_oe; rw [if_neg b5, if_neg b18]; rfl), rfl⟩
    · skip
      refine cv_aload_n C (pc' := 22) rfl (D 11 (21, .aload_n 0, 1) rfl) rfl (j := 0) rfl ?_
      refine cv_get C (pc' := 25) rfl (k0 := 12 + p) (i := 1) (ci := 1) (cv_lt_p hp6) (cv_shC_p hp6) rfl (by decide) (o := none) rfl iw_X1 wfX1_21 (D 12 (22, .getfield 21, 3) rfl) (v := .int (nI (L 1 p))) (congrArg Value.int (hL.2.2.2 p hp 1 (by decide))) ?_
      refine cv_goto C (tgt := 30) (D 13 (25, .goto 5, 3) rfl) (by decide) ?_
      exact cv_iret C Rt rfl (D 15 (30, .ireturn, 1) rfl) ⟨congrArg (fun z => some (Value.int z)) (by unfold cv_oe; rw [if_neg b5, if_pos b18]; rfl), rfl⟩
  · skip
    refine cv_aload_n C (pc' := 9) rfl (D 4 (8, .aload_n 0, 1) rfl) rfl (j := 0) rfl ?_
    refine cv_get C (pc' := 12) rfl (k0 := 12 + p) (i := 2) (ci := 1) (cv_lt_p hp6) (cv_shC_p hp6) rfl (by decide) (o := none) rfl iw_X1 wfX1_24 (D 5 (9, .getfield 24, 3) rfl) (v := .int (nI (L 2 p))) (congrArg Value.int (hL.2.2.2 p hp 2 (by decide))) ?_
    exact cv_iret C Rt rfl (D 6 (12, .ireturn, 1) rfl) ⟨congrArg (fun z => some (Value.int z)) (by unfold cv_oe; rw [if_pos b5]; rfl), rfl⟩
