theorem cv_LM_0 {L : cv_L} {μ : cv_St} {i : Nat} {v : Int32} (hi : i ≠ 5) (hL : cv_LM L μ) : cv_LM L (cv_u μ 0 i v) :=
  ⟨by rw [cv_u_i (Ne.symm hi)]; exact hL.1, fun d hd => by rw [cv_u_c (by decide)]; exact hL.2.1 d hd, fun v hv => by rw [cv_u_c (by decide)]; exact hL.2.2.1 v hv, fun p hp i hi => by rw [cv_u_c (by omega)]; exact hL.2.2.2 p hp i hi⟩
theorem cv_RM_f {tr : Int32} {ft : Nat} {sl : Nat → Option (Nat × Nat)} {sc : Nat → Nat → Int32} {L : cv_L} {rc : Nat} {rd : Nat → Nat} {rn : Nat → Option Nat} {μ : cv_St} (f : Nat) (hR : cv_RM tr ft sl sc L rc rd rn μ) : cv_RM tr f sl sc L rc rd rn (cv_u μ 0 0 (nI f)) := by
  obtain ⟨h1, h2, h3, h4, h5, h6⟩ := hR
  exact ⟨by rw [cv_u_i (by decide)]; exact h1, cv_u_s, fun k hk => by rw [cv_u_c (by decide), cv_u_c (by decide), cv_u_c (by decide)]; exact h3 k hk, cv_LM_0 (by decide) h4, by rw [cv_u_i (by decide)]; exact h5, ⟨by rw [cv_u_i (by decide)]; exact h6.1, fun k hk => by rw [cv_u_c (by decide), cv_u_c (by decide)]; exact h6.2 k hk⟩⟩
theorem cv_RM_t {tr : Int32} {ft : Nat} {sl : Nat → Option (Nat × Nat)} {sc : Nat → Nat → Int32} {L : cv_L} {rc : Nat} {rd : Nat → Nat} {rn : Nat → Option Nat} {μ : cv_St} (t : Int32) (hR : cv_RM tr ft sl sc L rc rd rn μ) : cv_RM t ft sl sc L rc rd rn (cv_u μ 0 1 t) := by
  obtain ⟨h1, h2, h3, h4, h5, h6⟩ := hR
  exact ⟨cv_u_s, by rw [cv_u_i (by decide)]; exact h2, fun k hk => by rw [cv_u_c (by decide), cv_u_c (by decide), cv_u_c (by decide)]; exact h3 k hk, cv_LM_0 (by decide) h4, by rw [cv_u_i (by decide)]; exact h5, ⟨by rw [cv_u_i (by decide)]; exact h6.1, fun k hk => by rw [cv_u_c (by decide), cv_u_c (by decide)]; exact h6.2 k hk⟩⟩
set_option maxHeartbeats 4000000 in
set_option maxRecDepth 100000 in
theorem kX7_fails (f : Nat) (μ : cv_St)  : cv_Ct yX7_fails cX7_fails 2 (some .int) 0 0 0 17 cv_shM [.ref 0, .int (nI f)] μ (fun v u => v = some (.int (-10 - nI f)) ∧ u = cv_u μ 0 0 (nI f)) := by
  refine cv_enter (own := RX7) (by decide) rfl (Nat.le_of_ble_eq_true rfl) ?_
  intro X a C Rt hRm
  have D := @cv_dec _ _ dkX7_fails
  show cv_At X _ _ μ 0 [(0, .ref 0), (1, .int (nI f))] []
  refine cv_aload_n C (pc' := 1) rfl (D 0 (0, .aload_n 0, 1) rfl) rfl (j := 0) rfl ?_
  refine cv_iload_n C (pc' := 2) rfl (D 1 (1, .iload_n 1, 1) rfl) rfl (j := 1) rfl ?_
  refine cv_put C (pc' := 5) rfl (k0 := 0) (i := 0) (ci := 7) (by decide) rfl rfl (by decide) rfl iw_X7 tyX7 tyX7_ok nmX7 wfX7_62 rfl rfl rfl (D 2 (2, .putfield 62, 3) rfl) ?_
  refine cv_bipush C (pc' := 7) rfl (D 3 (5, .bipush (-10), 2) rfl) (v := -10) (by decide) ?_
  refine cv_iload_n C (pc' := 8) rfl (D 4 (7, .iload_n 1, 1) rfl) rfl (j := 1) rfl ?_
  refine cv_isub C (pc' := 9) rfl (D 5 (8, .isub, 1) rfl) ?_
  exact cv_iret C Rt rfl (D 6 (9, .ireturn, 1) rfl) ⟨rfl, rfl⟩

set_option maxHeartbeats 4000000 in
set_option maxRecDepth 100000 in
theorem kX7_lost (f : Nat) (μ : cv_St)  : cv_Ct yX7_lost cX7_lost 2 (some .long) 0 0 0 17 cv_shM [.ref 0, .int (nI f)] μ (fun v u => v = some (.long (-9223372036854775808)) ∧ u = cv_u μ 0 0 (nI f)) := by
  refine cv_enter (own := RX7) (by decide) rfl (Nat.le_of_ble_eq_true rfl) ?_
  intro X a C Rt hRm
  have D := @cv_dec _ _ dkX7_lost
  show cv_At X _ _ μ 0 [(0, .ref 0), (1, .int (nI f))] []
  refine cv_aload_n C (pc' := 1) rfl (D 0 (0, .aload_n 0, 1) rfl) rfl (j := 0) rfl ?_
  refine cv_iload_n C (pc' := 2) rfl (D 1 (1, .iload_n 1, 1) rfl) rfl (j := 1) rfl ?_
  refine cv_put C (pc' := 5) rfl (k0 := 0) (i := 0) (ci := 7) (by decide) rfl rfl (by decide) rfl iw_X7 tyX7 tyX7_ok nmX7 wfX7_62 rfl rfl rfl (D 2 (2, .putfield 62, 3) rfl) ?_
  refine cv_ldc2 C (pc' := 8) rfl wlX7_65 (D 3 (5, .ldc2_w 65, 3) rfl) ?_
  exact cv_lret C Rt (D 4 (8, .lreturn, 1) rfl) ⟨rfl, rfl⟩

set_option maxHeartbeats 4000000 in
set_option maxRecDepth 100000 in
theorem kX7_begins (f : Nat) (μ : cv_St)  : cv_Ct yX7_begins cX7_begins 2 none 0 0 0 17 cv_shM [.ref 0, .int (nI f)] μ (fun v u => v = none ∧ u = cv_u μ 0 1 (nI 31 * μ 0 1 + nI f)) := by
  refine cv_enter (own := RX7) (by decide) rfl (Nat.le_of_ble_eq_true rfl) ?_
  intro X a C Rt hRm
  have D := @cv_dec _ _ dkX7_begins
  show cv_At X _ _ μ 0 [(0, .ref 0), (1, .int (nI f))] []
  refine cv_aload_n C (pc' := 1) rfl (D 0 (0, .aload_n 0, 1) rfl) rfl (j := 0) rfl ?_
  refine cv_bipush C (pc' := 3) rfl (D 1 (1, .bipush 31, 2) rfl) (v := nI 31) (by decide) ?_
  refine cv_aload_n C (pc' := 4) rfl (D 2 (3, .aload_n 0, 1) rfl) rfl (j := 0) rfl ?_
  refine cv_get C (pc' := 7) rfl (k0 := 0) (i := 1) (ci := 7) (by decide) rfl rfl (by decide) (o := none) rfl iw_X7 wfX7_200 (D 3 (4, .getfield 200, 3) rfl) (v := .int (μ 0 1)) rfl ?_
  refine cv_imul C (pc' := 8) rfl (D 4 (7, .imul, 1) rfl) ?_
  refine cv_iload_n C (pc' := 9) rfl (D 5 (8, .iload_n 1, 1) rfl) rfl (j := 1) rfl ?_
  refine cv_iadd C (pc' := 10) rfl (D 6 (9, .iadd, 1) rfl) ?_
  refine cv_put C (pc' := 13) rfl (k0 := 0) (i := 1) (ci := 7) (by decide) rfl rfl (by decide) rfl iw_X7 tyX7 tyX7_ok nmX7 wfX7_200 rfl rfl rfl (D 7 (10, .putfield 200, 3) rfl) ?_
  exact cv_vret C Rt (D 8 (13, .return_, 1) rfl) ⟨rfl, rfl⟩

set_option maxHeartbeats 4000000 in
set_option maxRecDepth 100000 in
theorem pX7_tell (tr : Int32) (ft : Nat) (sl : Nat → Option (Nat × Nat)) (sc : Nat → Nat → Int32) (L : cv_L) (rc : Nat) (rd : Nat → Nat) (rn : Nat → Option Nat) (x : Int32) (μ : cv_St) (hR : cv_RM tr ft sl sc L rc rd rn μ) (hB : cv_LB L) (hDB : cv_DB rc rd rn) : cv_Ct yX7_tell cX7_tell 3 (some .int) 2 0 0 17 cv_shM [.ref 0, .int x] μ (fun v u => v = some (.int (cv_a_tell L x)) ∧ cv_RM (cv_t_tell L tr x) ft sl sc L rc rd rn u) := by
  refine cv_enter (own := RX7) (by decide) rfl (Nat.le_of_ble_eq_true rfl) ?_
  intro X a C Rt hRm
  have D := @cv_dec _ _ dkX7_tell
  obtain ⟨hTr, hFt, hSh, hL, hM, hD⟩ := id hR
  have hn6 := hB.1
  have hrc := hDB.1
  show cv_At X _ _ μ 0 [(0, .ref 0), (1, .int x)] []
  refine cv_aload_n C (pc' := 1) rfl (D 0 (0, .aload_n 0, 1) rfl) rfl (j := 0) rfl ?_
  refine cv_iload_n C (pc' := 2) rfl (D 1 (1, .iload_n 1, 1) rfl) rfl (j := 1) rfl ?_
  refine cv_callV C (pc' := 5) rfl (k0 := 0) (ci := 7) (As := [.int x]) (rest := []) (idx := 118) (np := 1) (kX7_isPass x L μ hL) (by decide) rfl rfl rfl (by decide +kernel) rfl wmX7_118 wi_yX7_isPass ws_yX7_isPass wn_X7 wc_yX7_isPass (by decide) (by decide) (D 2 (2, .invokevirtual 118, 3) rfl) (Nat.le_of_ble_eq_true rfl) rfl (fun w9 u9 h9 => ?_)
  rw [h9.1, h9.2]
  show cv_At X _ _ μ 5 _ [.int (cv_b (cv_in x (L 7 0)))]
  refine cv_if_neB C (pc' := 8) rfl (tgt := 10) (D 3 (5, .ifCond .ne 5, 3) rfl) (by decide) (fun b5 => ?_) (fun b5 => ?_)
  · skip
    obtain ⟨p, hp, rfl⟩ := cv_in_of b5 (by omega)
    have hp6 : p < 6 := by omega
    obtain ⟨g0, g1, g2, g3, g4⟩ := hB.2.1 p hp
    refine cv_aload_n C (pc' := 11) rfl (D 6 (10, .aload_n 0, 1) rfl) rfl (j := 0) rfl ?_
    refine cv_get C (pc' := 14) rfl (k0 := 0) (i := 12) (ci := 7) (by decide) rfl rfl (by decide) (o := some 10) rfl iw_X7 wfX7_37 (D 7 (11, .getfield 37, 3) rfl) rfl ?_
    refine cv_iload_n C (pc' := 15) rfl (D 8 (14, .iload_n 1, 1) rfl) rfl (j := 1) rfl ?_
    refine cv_iald C (pc' := 16) rfl (k0 := 10) (j := p) (by decide) rfl rfl (by omega) (by decide) (D 9 (15, .iaload, 1) rfl) (v := nI (L 4 p)) (hL.2.2.2 p hp 4 (by decide)) ?_
    refine cv_istore_n C (pc' := 17) rfl (D 10 (16, .istore_n 2, 1) rfl) rfl (by decide) (lv' := [(2, .int (nI (L 4 p))), (0, .ref 0), (1, .int (nI p))]) rfl ?_
    refine cv_aload_n C (pc' := 18) rfl (D 11 (17, .aload_n 0, 1) rfl) rfl (j := 1) rfl ?_
    refine cv_get C (pc' := 21) rfl (k0 := 0) (i := 8) (ci := 7) (by decide) rfl rfl (by decide) (o := some 6) rfl iw_X7 wfX7_25 (D 12 (18, .getfield 25, 3) rfl) rfl ?_
    refine cv_iload_n C (pc' := 22) rfl (D 13 (21, .iload_n 1, 1) rfl) rfl (j := 2) rfl ?_
    refine cv_iald C (pc' := 23) rfl (k0 := 6) (j := p) (by decide) rfl rfl (by omega) (by decide) (D 14 (22, .iaload, 1) rfl) (v := nI (L 0 p)) (hL.2.2.2 p hp 0 (by decide)) ?_
    have hk : L 0 p = 0 ∨ L 0 p = 1 ∨ L 0 p = 2 := by omega
    rcases hk with hk | hk | hk
    · skip
      refine cv_top (w := nI 0) (congrArg nI hk) ?_
      refine cv_lookup C (D 15 (23, .lookupswitch 67 #[(1, 25), (2, 40)], 25) rfl) (off := 67) (tgt := 90) (by decide) (by decide) (by decide) ?_
      refine cv_aload_n C (pc' := 91) rfl (D 44 (90, .aload_n 0, 1) rfl) rfl (j := 1) rfl ?_
      refine cv_iconst C (pc' := 92) rfl (D 45 (91, .iconst 1, 1) rfl) (v := nI 1) (by decide) ?_
      refine cv_callV C (pc' := 95) rfl (k0 := 0) (ci := 7) (As := [.int (nI 1)]) (rest := []) (idx := 203) (np := 1) (kX7_begins 1 μ) (by decide) rfl rfl rfl (by decide +kernel) rfl wmX7_203 wi_yX7_begins ws_yX7_begins wn_X7 wc_yX7_begins (by decide) (by decide) (D 46 (92, .invokevirtual 203, 3) rfl) (Nat.le_of_ble_eq_true rfl) rfl (fun w92 u92 h92 => ?_)
      rw [h92.1, h92.2]
      have et92 : cv_u μ 0 1 (nI 31 * μ 0 1 + nI 1) = cv_u μ 0 1 (cv_lv 1 tr) := by rw [hTr]; rfl
      rw [et92]
      show cv_At X _ _ (cv_u μ 0 1 (cv_lv 1 tr)) 95 _ []
      refine cv_iload_n C (pc' := 96) rfl (D 47 (95, .iload_n 2, 1) rfl) rfl (j := 0) rfl ?_
      exact cv_iret C Rt rfl (D 48 (96, .ireturn, 1) rfl) ⟨congrArg (fun z => some (Value.int z)) (by unfold cv_a_tell; rw [if_pos b5, cv_nt, nI_clamp (by omega)]; rw [if_neg (by omega), if_neg (by omega)]), by unfold cv_t_tell; rw [if_pos b5, cv_nt, nI_clamp (by omega)]; rw [if_neg (by omega), if_neg (by omega)]; exact cv_RM_t _ hR⟩
    · skip
      refine cv_top (w := nI 1) (congrArg nI hk) ?_
      refine cv_lookup C (D 15 (23, .lookupswitch 67 #[(1, 25), (2, 40)], 25) rfl) (off := 25) (tgt := 48) (by decide) (by decide) (by decide) ?_
      refine cv_aload_n C (pc' := 49) rfl (D 16 (48, .aload_n 0, 1) rfl) rfl (j := 1) rfl ?_
      refine cv_iconst C (pc' := 50) rfl (D 17 (49, .iconst 2, 1) rfl) (v := nI 2) (by decide) ?_
      refine cv_callV C (pc' := 53) rfl (k0 := 0) (ci := 7) (As := [.int (nI 2)]) (rest := []) (idx := 203) (np := 1) (kX7_begins 2 μ) (by decide) rfl rfl rfl (by decide +kernel) rfl wmX7_203 wi_yX7_begins ws_yX7_begins wn_X7 wc_yX7_begins (by decide) (by decide) (D 18 (50, .invokevirtual 203, 3) rfl) (Nat.le_of_ble_eq_true rfl) rfl (fun w50 u50 h50 => ?_)
      rw [h50.1, h50.2]
      have et50 : cv_u μ 0 1 (nI 31 * μ 0 1 + nI 2) = cv_u μ 0 1 (cv_lv 2 tr) := by rw [hTr]; rfl
      rw [et50]
      show cv_At X _ _ (cv_u μ 0 1 (cv_lv 2 tr)) 53 _ []
      refine cv_aload_n C (pc' := 54) rfl (D 19 (53, .aload_n 0, 1) rfl) rfl (j := 1) rfl ?_
      refine cv_iconst C (pc' := 55) rfl (D 20 (54, .iconst 1, 1) rfl) (v := nI 1) (by decide) ?_
      refine cv_callV C (pc' := 58) rfl (k0 := 0) (ci := 7) (As := [.int (nI 1)]) (rest := []) (idx := 203) (np := 1) (kX7_begins 1 (cv_u μ 0 1 (cv_lv 2 tr))) (by decide) rfl rfl rfl (by decide +kernel) rfl wmX7_203 wi_yX7_begins ws_yX7_begins wn_X7 wc_yX7_begins (by decide) (by decide) (D 21 (55, .invokevirtual 203, 3) rfl) (Nat.le_of_ble_eq_true rfl) rfl (fun w55 u55 h55 => ?_)
      rw [h55.1, h55.2]
      have et55 : cv_u (cv_u μ 0 1 (cv_lv 2 tr)) 0 1 (nI 31 * (cv_u μ 0 1 (cv_lv 2 tr)) 0 1 + nI 1) = cv_u μ 0 1 (cv_lv 1 (cv_lv 2 tr)) := by rw [cv_uu, cv_u_s]; rfl
      rw [et55]
      show cv_At X _ _ (cv_u μ 0 1 (cv_lv 1 (cv_lv 2 tr))) 58 _ []
      refine cv_iload_n C (pc' := 59) rfl (D 22 (58, .iload_n 2, 1) rfl) rfl (j := 0) rfl ?_
      refine cv_bipush C (pc' := 61) rfl (D 23 (59, .bipush 100, 2) rfl) (v := nI 100) (by decide) ?_
      refine cv_iaddN C (pc' := 62) rfl (D 24 (61, .iadd, 1) rfl) ?_
      exact cv_iret C Rt rfl (D 25 (62, .ireturn, 1) rfl) ⟨congrArg (fun z => some (Value.int z)) (by unfold cv_a_tell; rw [if_pos b5, cv_nt, nI_clamp (by omega)]; rw [if_pos hk]), by unfold cv_t_tell; rw [if_pos b5, cv_nt, nI_clamp (by omega)]; rw [if_pos hk]; exact cv_RM_t _ hR⟩
    · skip
      refine cv_top (w := nI 2) (congrArg nI hk) ?_
      refine cv_lookup C (D 15 (23, .lookupswitch 67 #[(1, 25), (2, 40)], 25) rfl) (off := 40) (tgt := 63) (by decide) (by decide) (by decide) ?_
      refine cv_aload_n C (pc' := 64) rfl (D 26 (63, .aload_n 0, 1) rfl) rfl (j := 1) rfl ?_
      refine cv_iconst C (pc' := 65) rfl (D 27 (64, .iconst 3, 1) rfl) (v := nI 3) (by decide) ?_
      refine cv_callV C (pc' := 68) rfl (k0 := 0) (ci := 7) (As := [.int (nI 3)]) (rest := []) (idx := 203) (np := 1) (kX7_begins 3 μ) (by decide) rfl rfl rfl (by decide +kernel) rfl wmX7_203 wi_yX7_begins ws_yX7_begins wn_X7 wc_yX7_begins (by decide) (by decide) (D 28 (65, .invokevirtual 203, 3) rfl) (Nat.le_of_ble_eq_true rfl) rfl (fun w65 u65 h65 => ?_)
      rw [h65.1, h65.2]
      have et65 : cv_u μ 0 1 (nI 31 * μ 0 1 + nI 3) = cv_u μ 0 1 (cv_lv 3 tr) := by rw [hTr]; rfl
      rw [et65]
      show cv_At X _ _ (cv_u μ 0 1 (cv_lv 3 tr)) 68 _ []
      refine cv_aload_n C (pc' := 69) rfl (D 29 (68, .aload_n 0, 1) rfl) rfl (j := 1) rfl ?_
      refine cv_iconst C (pc' := 70) rfl (D 30 (69, .iconst 2, 1) rfl) (v := nI 2) (by decide) ?_
      refine cv_callV C (pc' := 73) rfl (k0 := 0) (ci := 7) (As := [.int (nI 2)]) (rest := []) (idx := 203) (np := 1) (kX7_begins 2 (cv_u μ 0 1 (cv_lv 3 tr))) (by decide) rfl rfl rfl (by decide +kernel) rfl wmX7_203 wi_yX7_begins ws_yX7_begins wn_X7 wc_yX7_begins (by decide) (by decide) (D 31 (70, .invokevirtual 203, 3) rfl) (Nat.le_of_ble_eq_true rfl) rfl (fun w70 u70 h70 => ?_)
      rw [h70.1, h70.2]
      have et70 : cv_u (cv_u μ 0 1 (cv_lv 3 tr)) 0 1 (nI 31 * (cv_u μ 0 1 (cv_lv 3 tr)) 0 1 + nI 2) = cv_u μ 0 1 (cv_lv 2 (cv_lv 3 tr)) := by rw [cv_uu, cv_u_s]; rfl
      rw [et70]
      show cv_At X _ _ (cv_u μ 0 1 (cv_lv 2 (cv_lv 3 tr))) 73 _ []
      refine cv_aload_n C (pc' := 74) rfl (D 32 (73, .aload_n 0, 1) rfl) rfl (j := 1) rfl ?_
      refine cv_iconst C (pc' := 75) rfl (D 33 (74, .iconst 1, 1) rfl) (v := nI 1) (by decide) ?_
      refine cv_callV C (pc' := 78) rfl (k0 := 0) (ci := 7) (As := [.int (nI 1)]) (rest := []) (idx := 203) (np := 1) (kX7_begins 1 (cv_u μ 0 1 (cv_lv 2 (cv_lv 3 tr)))) (by decide) rfl rfl rfl (by decide +kernel) rfl wmX7_203 wi_yX7_begins ws_yX7_begins wn_X7 wc_yX7_begins (by decide) (by decide) (D 34 (75, .invokevirtual 203, 3) rfl) (Nat.le_of_ble_eq_true rfl) rfl (fun w75 u75 h75 => ?_)
      rw [h75.1, h75.2]
      have et75 : cv_u (cv_u μ 0 1 (cv_lv 2 (cv_lv 3 tr))) 0 1 (nI 31 * (cv_u μ 0 1 (cv_lv 2 (cv_lv 3 tr))) 0 1 + nI 1) = cv_u μ 0 1 (cv_lv 1 (cv_lv 2 (cv_lv 3 tr))) := by rw [cv_uu, cv_u_s]; rfl
      rw [et75]
      show cv_At X _ _ (cv_u μ 0 1 (cv_lv 1 (cv_lv 2 (cv_lv 3 tr)))) 78 _ []
      refine cv_aload_n C (pc' := 79) rfl (D 35 (78, .aload_n 0, 1) rfl) rfl (j := 1) rfl ?_
      refine cv_iconst C (pc' := 80) rfl (D 36 (79, .iconst 1, 1) rfl) (v := nI 1) (by decide) ?_
      refine cv_callV C (pc' := 83) rfl (k0 := 0) (ci := 7) (As := [.int (nI 1)]) (rest := []) (idx := 203) (np := 1) (kX7_begins 1 (cv_u μ 0 1 (cv_lv 1 (cv_lv 2 (cv_lv 3 tr))))) (by decide) rfl rfl rfl (by decide +kernel) rfl wmX7_203 wi_yX7_begins ws_yX7_begins wn_X7 wc_yX7_begins (by decide) (by decide) (D 37 (80, .invokevirtual 203, 3) rfl) (Nat.le_of_ble_eq_true rfl) rfl (fun w80 u80 h80 => ?_)
      rw [h80.1, h80.2]
      have et80 : cv_u (cv_u μ 0 1 (cv_lv 1 (cv_lv 2 (cv_lv 3 tr)))) 0 1 (nI 31 * (cv_u μ 0 1 (cv_lv 1 (cv_lv 2 (cv_lv 3 tr)))) 0 1 + nI 1) = cv_u μ 0 1 (cv_lv 1 (cv_lv 1 (cv_lv 2 (cv_lv 3 tr)))) := by rw [cv_uu, cv_u_s]; rfl
      rw [et80]
      show cv_At X _ _ (cv_u μ 0 1 (cv_lv 1 (cv_lv 1 (cv_lv 2 (cv_lv 3 tr))))) 83 _ []
      refine cv_iconst C (pc' := 84) rfl (D 38 (83, .iconst 2, 1) rfl) (v := nI 2) (by decide) ?_
      refine cv_iload_n C (pc' := 85) rfl (D 39 (84, .iload_n 2, 1) rfl) rfl (j := 0) rfl ?_
      refine cv_imulN C (pc' := 86) rfl (D 40 (85, .imul, 1) rfl) ?_
      refine cv_bipush C (pc' := 88) rfl (D 41 (86, .bipush 100, 2) rfl) (v := nI 100) (by decide) ?_
      refine cv_iaddN C (pc' := 89) rfl (D 42 (88, .iadd, 1) rfl) ?_
      exact cv_iret C Rt rfl (D 43 (89, .ireturn, 1) rfl) ⟨congrArg (fun z => some (Value.int z)) (by unfold cv_a_tell; rw [if_pos b5, cv_nt, nI_clamp (by omega)]; rw [if_neg (by omega), if_pos hk]; exact congrArg nI (by omega)), by unfold cv_t_tell; rw [if_pos b5, cv_nt, nI_clamp (by omega)]; rw [if_neg (by omega), if_pos hk]; exact cv_RM_t _ hR⟩
  · skip
    refine cv_iconst C (pc' := 9) rfl (D 4 (8, .iconst (-1), 1) rfl) (v := -1) (by decide) ?_
    exact cv_iret C Rt rfl (D 5 (9, .ireturn, 1) rfl) ⟨congrArg (fun z => some (Value.int z)) (by unfold cv_a_tell; rw [if_neg (by simp [b5])]), by unfold cv_t_tell; rw [if_neg (by simp [b5])]; exact hR⟩

set_option maxHeartbeats 4000000 in
set_option maxRecDepth 100000 in
theorem pX7_mark (tr : Int32) (ft : Nat) (sl : Nat → Option (Nat × Nat)) (sc : Nat → Nat → Int32) (L : cv_L) (rc : Nat) (rd : Nat → Nat) (rn : Nat → Option Nat) (x : Int32) (μ : cv_St) (hR : cv_RM tr ft sl sc L rc rd rn μ) (hB : cv_LB L) (hDB : cv_DB rc rd rn) : cv_Ct yX7_mark cX7_mark 2 (some .int) 2 0 0 17 cv_shM [.ref 0, .int x] μ (fun v u => v = some (.int (cv_a_mark L x)) ∧ cv_RM (cv_t_mark L tr x) ft sl sc L rc rd rn u) := by
  refine cv_enter (own := RX7) (by decide) rfl (Nat.le_of_ble_eq_true rfl) ?_
  intro X a C Rt hRm
  have D := @cv_dec _ _ dkX7_mark
  obtain ⟨hTr, hFt, hSh, hL, hM, hD⟩ := id hR
  have hn6 := hB.1
  have hrc := hDB.1
  show cv_At X _ _ μ 0 [(0, .ref 0), (1, .int x)] []
  refine cv_aload_n C (pc' := 1) rfl (D 0 (0, .aload_n 0, 1) rfl) rfl (j := 0) rfl ?_
  refine cv_iload_n C (pc' := 2) rfl (D 1 (1, .iload_n 1, 1) rfl) rfl (j := 1) rfl ?_
  refine cv_callV C (pc' := 5) rfl (k0 := 0) (ci := 7) (As := [.int x]) (rest := []) (idx := 118) (np := 1) (kX7_isPass x L μ hL) (by decide) rfl rfl rfl (by decide +kernel) rfl wmX7_118 wi_yX7_isPass ws_yX7_isPass wn_X7 wc_yX7_isPass (by decide) (by decide) (D 2 (2, .invokevirtual 118, 3) rfl) (Nat.le_of_ble_eq_true rfl) rfl (fun w9 u9 h9 => ?_)
  rw [h9.1, h9.2]
  show cv_At X _ _ μ 5 _ [.int (cv_b (cv_in x (L 7 0)))]
  refine cv_if_neB C (pc' := 8) rfl (tgt := 10) (D 3 (5, .ifCond .ne 5, 3) rfl) (by decide) (fun b5 => ?_) (fun b5 => ?_)
  · skip
    obtain ⟨p, hp, rfl⟩ := cv_in_of b5 (by omega)
    have hp6 : p < 6 := by omega
    obtain ⟨g0, g1, g2, g3, g4⟩ := hB.2.1 p hp
    refine cv_aload_n C (pc' := 11) rfl (D 6 (10, .aload_n 0, 1) rfl) rfl (j := 0) rfl ?_
    refine cv_aload_n C (pc' := 12) rfl (D 7 (11, .aload_n 0, 1) rfl) rfl (j := 0) rfl ?_
    refine cv_get C (pc' := 15) rfl (k0 := 0) (i := 8) (ci := 7) (by decide) rfl rfl (by decide) (o := some 6) rfl iw_X7 wfX7_25 (D 8 (12, .getfield 25, 3) rfl) rfl ?_
    refine cv_iload_n C (pc' := 16) rfl (D 9 (15, .iload_n 1, 1) rfl) rfl (j := 1) rfl ?_
    refine cv_iald C (pc' := 17) rfl (k0 := 6) (j := p) (by decide) rfl rfl (by omega) (by decide) (D 10 (16, .iaload, 1) rfl) (v := nI (L 0 p)) (hL.2.2.2 p hp 0 (by decide)) ?_
    refine cv_iconst C (pc' := 18) rfl (D 11 (17, .iconst 2, 1) rfl) (v := nI 2) (by decide) ?_
    refine cv_icmp_neN C (pc' := 21) rfl (by omega) (by omega) (tgt := 25) (D 12 (18, .if_icmp .ne 7, 3) rfl) (by decide) (fun b18 => ?_) (fun b18 => ?_)
    · skip
      refine cv_iconst C (pc' := 26) rfl (D 15 (25, .iconst 4, 1) rfl) (v := nI 4) (by decide) ?_
      refine cv_callV C (pc' := 29) rfl (k0 := 0) (ci := 7) (As := [.int (nI 4)]) (rest := []) (idx := 203) (np := 1) (kX7_begins 4 μ) (by decide) rfl rfl rfl (by decide +kernel) rfl wmX7_203 wi_yX7_begins ws_yX7_begins wn_X7 wc_yX7_begins (by decide) (by decide) (D 16 (26, .invokevirtual 203, 3) rfl) (Nat.le_of_ble_eq_true rfl) rfl (fun w26 u26 h26 => ?_)
      rw [h26.1, h26.2]
      have et26 : cv_u μ 0 1 (nI 31 * μ 0 1 + nI 4) = cv_u μ 0 1 (cv_lv 4 tr) := by rw [hTr]; rfl
      rw [et26]
      show cv_At X _ _ (cv_u μ 0 1 (cv_lv 4 tr)) 29 _ []
      refine cv_aload_n C (pc' := 30) rfl (D 17 (29, .aload_n 0, 1) rfl) rfl (j := 0) rfl ?_
      refine cv_get C (pc' := 33) rfl (k0 := 0) (i := 8) (ci := 7) (by decide) rfl rfl (by decide) (o := some 6) rfl iw_X7 wfX7_25 (D 18 (30, .getfield 25, 3) rfl) rfl ?_
      refine cv_iload_n C (pc' := 34) rfl (D 19 (33, .iload_n 1, 1) rfl) rfl (j := 1) rfl ?_
      refine cv_iald C (pc' := 35) rfl (k0 := 6) (j := p) (by decide) rfl rfl (by omega) (by decide) (D 20 (34, .iaload, 1) rfl) (v := nI (L 0 p)) ((congrFun (cv_u_c (by omega)) _).trans (hL.2.2.2 p hp 0 (by decide))) ?_
      refine cv_iconst C (pc' := 36) rfl (D 21 (35, .iconst 2, 1) rfl) (v := nI 2) (by decide) ?_
      refine cv_icmp_neN C (pc' := 39) rfl (by omega) (by omega) (tgt := 44) (D 22 (36, .if_icmp .ne 8, 3) rfl) (by decide) (fun b36 => ?_) (fun b36 => ?_)
      · skip
        refine cv_iload_n C (pc' := 45) rfl (D 25 (44, .iload_n 1, 1) rfl) rfl (j := 1) rfl ?_
        exact cv_iret C Rt rfl (D 26 (45, .ireturn, 1) rfl) ⟨congrArg (fun z => some (Value.int z)) (by unfold cv_a_mark; rw [if_pos b5, cv_nt, nI_clamp (by omega), if_neg b18]; try rfl), by unfold cv_t_mark; rw [if_pos b5, cv_nt, nI_clamp (by omega), if_neg b18]; exact cv_RM_t _ hR⟩
      · skip
        omega
    · skip
      refine cv_iconst C (pc' := 22) rfl (D 13 (21, .iconst 5, 1) rfl) (v := nI 5) (by decide) ?_
      refine cv_goto C (tgt := 26) (D 14 (22, .goto 4, 3) rfl) (by decide) ?_
      refine cv_callV C (pc' := 29) rfl (k0 := 0) (ci := 7) (As := [.int (nI 5)]) (rest := []) (idx := 203) (np := 1) (kX7_begins 5 μ) (by decide) rfl rfl rfl (by decide +kernel) rfl wmX7_203 wi_yX7_begins ws_yX7_begins wn_X7 wc_yX7_begins (by decide) (by decide) (D 16 (26, .invokevirtual 203, 3) rfl) (Nat.le_of_ble_eq_true rfl) rfl (fun w26 u26 h26 => ?_)
      rw [h26.1, h26.2]
      have et26 : cv_u μ 0 1 (nI 31 * μ 0 1 + nI 5) = cv_u μ 0 1 (cv_lv 5 tr) := by rw [hTr]; rfl
      rw [et26]
      show cv_At X _ _ (cv_u μ 0 1 (cv_lv 5 tr)) 29 _ []
      refine cv_aload_n C (pc' := 30) rfl (D 17 (29, .aload_n 0, 1) rfl) rfl (j := 0) rfl ?_
      refine cv_get C (pc' := 33) rfl (k0 := 0) (i := 8) (ci := 7) (by decide) rfl rfl (by decide) (o := some 6) rfl iw_X7 wfX7_25 (D 18 (30, .getfield 25, 3) rfl) rfl ?_
      refine cv_iload_n C (pc' := 34) rfl (D 19 (33, .iload_n 1, 1) rfl) rfl (j := 1) rfl ?_
      refine cv_iald C (pc' := 35) rfl (k0 := 6) (j := p) (by decide) rfl rfl (by omega) (by decide) (D 20 (34, .iaload, 1) rfl) (v := nI (L 0 p)) ((congrFun (cv_u_c (by omega)) _).trans (hL.2.2.2 p hp 0 (by decide))) ?_
      refine cv_iconst C (pc' := 36) rfl (D 21 (35, .iconst 2, 1) rfl) (v := nI 2) (by decide) ?_
      refine cv_icmp_neN C (pc' := 39) rfl (by omega) (by omega) (tgt := 44) (D 22 (36, .if_icmp .ne 8, 3) rfl) (by decide) (fun b36 => ?_) (fun b36 => ?_)
      · skip
        omega
      · skip
        refine cv_bipush C (pc' := 41) rfl (D 23 (39, .bipush 80, 2) rfl) (v := nI 80) (by decide) ?_
        refine cv_goto C (tgt := 45) (D 24 (41, .goto 4, 3) rfl) (by decide) ?_
        exact cv_iret C Rt rfl (D 26 (45, .ireturn, 1) rfl) ⟨congrArg (fun z => some (Value.int z)) (by unfold cv_a_mark; rw [if_pos b5, cv_nt, nI_clamp (by omega), if_pos b18]; try rfl), by unfold cv_t_mark; rw [if_pos b5, cv_nt, nI_clamp (by omega), if_pos b18]; exact cv_RM_t _ hR⟩
  · skip
    refine cv_iconst C (pc' := 9) rfl (D 4 (8, .iconst (-1), 1) rfl) (v := -1) (by decide) ?_
    exact cv_iret C Rt rfl (D 5 (9, .ireturn, 1) rfl) ⟨congrArg (fun z => some (Value.int z)) (by unfold cv_a_mark; rw [if_neg (by simp [b5])]), by unfold cv_t_mark; rw [if_neg (by simp [b5])]; exact hR⟩

set_option maxHeartbeats 4000000 in
set_option maxRecDepth 100000 in
theorem pX7_as (tr : Int32) (ft : Nat) (sl : Nat → Option (Nat × Nat)) (sc : Nat → Nat → Int32) (L : cv_L) (rc : Nat) (rd : Nat → Nat) (rn : Nat → Option Nat) (x y : Int32) (μ : cv_St) (hR : cv_RM tr ft sl sc L rc rd rn μ) (hB : cv_LB L) (hDB : cv_DB rc rd rn) : cv_Ct yX7_as cX7_as 3 (some .int) 2 0 0 17 cv_shM [.ref 0, .int x, .int y] μ (fun v u => v = some (.int (cv_a_as L x y)) ∧ cv_RM tr (cv_f_as L x y) sl sc L rc rd rn u) := by
  refine cv_enter (own := RX7) (by decide) rfl (Nat.le_of_ble_eq_true rfl) ?_
  intro X a C Rt hRm
  have D := @cv_dec _ _ dkX7_as
  obtain ⟨hTr, hFt, hSh, hL, hM, hD⟩ := id hR
  have hn6 := hB.1
  have hrc := hDB.1
  show cv_At X _ _ μ 0 [(0, .ref 0), (1, .int x), (2, .int y)] []
  refine cv_aload_n C (pc' := 1) rfl (D 0 (0, .aload_n 0, 1) rfl) rfl (j := 0) rfl ?_
  refine cv_iconst C (pc' := 2) rfl (D 1 (1, .iconst 0, 1) rfl) (v := nI 0) (by decide) ?_
  refine cv_put C (pc' := 5) rfl (k0 := 0) (i := 0) (ci := 7) (by decide) rfl rfl (by decide) rfl iw_X7 tyX7 tyX7_ok nmX7 wfX7_62 rfl rfl rfl (D 2 (2, .putfield 62, 3) rfl) ?_
  refine cv_aload_n C (pc' := 6) rfl (D 3 (5, .aload_n 0, 1) rfl) rfl (j := 0) rfl ?_
  refine cv_iload_n C (pc' := 7) rfl (D 4 (6, .iload_n 1, 1) rfl) rfl (j := 1) rfl ?_
  refine cv_callV C (pc' := 10) rfl (k0 := 0) (ci := 7) (As := [.int x]) (rest := []) (idx := 118) (np := 1) (kX7_isPass x L (cv_u μ 0 0 (nI 0)) (cv_LM_0 (by decide) hL)) (by decide) rfl rfl rfl (by decide +kernel) rfl wmX7_118 wi_yX7_isPass ws_yX7_isPass wn_X7 wc_yX7_isPass (by decide) (by decide) (D 5 (7, .invokevirtual 118, 3) rfl) (Nat.le_of_ble_eq_true rfl) rfl (fun w9 u9 h9 => ?_)
  rw [h9.1, h9.2]
  show cv_At X _ _ (cv_u μ 0 0 (nI 0)) 10 _ [.int (cv_b (cv_in x (L 7 0)))]
  refine cv_if_neB C (pc' := 13) rfl (tgt := 15) (D 6 (10, .ifCond .ne 5, 3) rfl) (by decide) (fun b10 => ?_) (fun b10 => ?_)
  · skip
    refine cv_iload_n C (pc' := 16) rfl (D 9 (15, .iload_n 2, 1) rfl) rfl (j := 2) rfl ?_
    refine cv_iconst C (pc' := 17) rfl (D 10 (16, .iconst 0, 1) rfl) (v := nI 0) (by decide) ?_
    refine cv_iconst C (pc' := 18) rfl (D 11 (17, .iconst 2, 1) rfl) (v := nI 2) (by decide) ?_
    refine cv_callS C (pc' := 21) rfl (As := [.int y, .int (nI 0), .int (nI 2)]) (rest := []) (idx := 67) (np := 3) (kX7_within y (nI 0) (nI 2) (cv_u μ 0 0 (nI 0))) (by decide +kernel) rfl wmX7_67 wt_yX7_within wn_X7 wc_yX7_within (by decide) (by decide) (D 12 (18, .invokestatic 67, 3) rfl) (Nat.le_of_ble_eq_true rfl) rfl (fun w9 u9 h9 => ?_)
    rw [h9.1, h9.2]
    show cv_At X _ _ (cv_u μ 0 0 (nI 0)) 21 _ [.int (cv_b (decide ((nI 0) ≤ y ∧ y ≤ (nI 2))))]
    refine cv_if_neB C (pc' := 24) rfl (tgt := 27) (D 13 (21, .ifCond .ne 6, 3) rfl) (by decide) (fun b21 => ?_) (fun b21 => ?_)
    · skip
      rw [cv_in_le (n := 2) (by decide)] at b21
      obtain ⟨p, hp, rfl⟩ := cv_in_of b10 (by omega)
      obtain ⟨w, hw, rfl⟩ := cv_in_of b21 (by omega)
      have hp6 : p < 6 := by omega
      have hk2 := (hB.2.1 p hp).1
      refine cv_aload_n C (pc' := 28) rfl (D 16 (27, .aload_n 0, 1) rfl) rfl (j := 0) rfl ?_
      refine cv_get C (pc' := 31) rfl (k0 := 0) (i := 8) (ci := 7) (by decide) rfl rfl (by decide) (o := some 6) rfl iw_X7 wfX7_25 (D 17 (28, .getfield 25, 3) rfl) rfl ?_
      refine cv_iload_n C (pc' := 32) rfl (D 18 (31, .iload_n 1, 1) rfl) rfl (j := 1) rfl ?_
      refine cv_iald C (pc' := 33) rfl (k0 := 6) (j := p) (by decide) rfl rfl (by omega) (by decide) (D 19 (32, .iaload, 1) rfl) (v := nI (L 0 p)) ((congrFun (cv_u_c (by omega)) _).trans (hL.2.2.2 p hp 0 (by decide))) ?_
      refine cv_iload_n C (pc' := 34) rfl (D 20 (33, .iload_n 2, 1) rfl) rfl (j := 2) rfl ?_
      refine cv_icmp_ltN C (pc' := 37) rfl (by omega) (by omega) (tgt := 41) (D 21 (34, .if_icmp .lt 7, 3) rfl) (by decide) (fun b34 => ?_) (fun b34 => ?_)
      · skip
        refine cv_aload_n C (pc' := 42) rfl (D 24 (41, .aload_n 0, 1) rfl) rfl (j := 0) rfl ?_
        refine cv_iconst C (pc' := 43) rfl (D 25 (42, .iconst 2, 1) rfl) (v := nI 2) (by decide) ?_
        refine cv_callV C (pc' := 46) rfl (k0 := 0) (ci := 7) (As := [.int (nI 2)]) (rest := []) (idx := 92) (np := 1) (kX7_fails 2 (cv_u μ 0 0 (nI 0))) (by decide) rfl rfl rfl (by decide +kernel) rfl wmX7_92 wi_yX7_fails ws_yX7_fails wn_X7 wc_yX7_fails (by decide) (by decide) (D 26 (43, .invokevirtual 92, 3) rfl) (Nat.le_of_ble_eq_true rfl) rfl (fun w43 u43 h43 => ?_)
        rw [h43.1, h43.2, cv_uu]
        show cv_At X _ _ (cv_u μ 0 0 (nI 2)) 46 _ [.int (-10 - nI 2)]
        exact cv_iret C Rt rfl (D 27 (46, .ireturn, 1) rfl) ⟨congrArg (fun z => some (Value.int z)) (by unfold cv_a_as; rw [if_pos b10, if_pos b21, cv_nt, nI_clamp (by omega), cv_nt, nI_clamp (by omega), if_neg (by omega)]; decide), by unfold cv_f_as; rw [if_pos ⟨b10, b21, by rw [cv_nt, nI_clamp (by omega), cv_nt, nI_clamp (by omega)]; omega⟩]; exact cv_RM_f _ hR⟩
      · skip
        refine cv_iconst C (pc' := 38) rfl (D 22 (37, .iconst 1, 1) rfl) (v := nI 1) (by decide) ?_
        refine cv_goto C (tgt := 46) (D 23 (38, .goto 8, 3) rfl) (by decide) ?_
        exact cv_iret C Rt rfl (D 27 (46, .ireturn, 1) rfl) ⟨congrArg (fun z => some (Value.int z)) (by unfold cv_a_as; rw [if_pos b10, if_pos b21, cv_nt, nI_clamp (by omega), cv_nt, nI_clamp (by omega), if_pos (by omega)]; rfl), by unfold cv_f_as; rw [if_neg (fun h => by have := h.2.2; rw [cv_nt, nI_clamp (by omega), cv_nt, nI_clamp (by omega)] at this; omega)]; exact cv_RM_f _ hR⟩
    · skip
      rw [cv_in_le (n := 2) (by decide)] at b21
      refine cv_bipush C (pc' := 26) rfl (D 14 (24, .bipush (-2), 2) rfl) (v := -2) (by decide) ?_
      exact cv_iret C Rt rfl (D 15 (26, .ireturn, 1) rfl) ⟨congrArg (fun z => some (Value.int z)) (by unfold cv_a_as; rw [if_pos b10, if_neg (by simp [b21])]), by unfold cv_f_as; rw [if_neg (by simp [b21])]; exact cv_RM_f _ hR⟩
  · skip
    refine cv_iconst C (pc' := 14) rfl (D 7 (13, .iconst (-1), 1) rfl) (v := -1) (by decide) ?_
    exact cv_iret C Rt rfl (D 8 (14, .ireturn, 1) rfl) ⟨congrArg (fun z => some (Value.int z)) (by unfold cv_a_as; rw [if_neg (by simp [b10])]), by unfold cv_f_as; rw [if_neg (by simp [b10])]; exact cv_RM_f _ hR⟩

set_option maxHeartbeats 4000000 in
set_option maxRecDepth 100000 in
theorem kX7_allGive (L : cv_L) (μ : cv_St) (hL : cv_LM L μ) (hB : cv_LB L) : cv_Ct yX7_allGive cX7_allGive 3 (some .int) 1 0 0 17 cv_shM [.ref 0] μ (cv_pu (.int (nI (cv_cnt (fun d => (L 6 0).testBit d && ((L 6 1).testBit d && (L 6 2).testBit d)) 8))) μ) := by
  refine cv_enter (own := RX7) (by decide) rfl (Nat.le_of_ble_eq_true rfl) ?_
  intro X a C Rt hRm
  have D := @cv_dec _ _ dkX7_allGive
  show cv_At X _ _ μ 0 [(0, .ref 0)] []
  refine cv_iconst C (pc' := 1) rfl (D 0 (0, .iconst 0, 1) rfl) (v := nI 0) (by decide) ?_
  refine cv_istore_n C (pc' := 2) rfl (D 1 (1, .istore_n 1, 1) rfl) rfl (by decide) (lv' := [(1, .int (nI 0)), (0, .ref 0)]) rfl ?_
  refine cv_iconst C (pc' := 3) rfl (D 2 (2, .iconst 0, 1) rfl) (v := nI 0) (by decide) ?_
  refine cv_istore_n C (pc' := 4) rfl (D 3 (3, .istore_n 2, 1) rfl) rfl (by decide) (lv' := [(2, .int (nI 0)), (1, .int (nI 0)), (0, .ref 0)]) rfl ?_
  refine cv_pick [0, 1, 2] (lv' := [(2, .int (nI 0)), (1, .int (nI (cv_cnt (fun d => (L 6 0).testBit d && ((L 6 1).testBit d && (L 6 2).testBit d)) 0))), (0, .ref 0)]) rfl ?_
  have LP4 : ∀ (r : Nat) (k : Nat), (k + r = 8) → cv_At X (17, cv_shM, 0, 0, a) 3 μ 4 [(2, .int (nI k)), (1, .int (nI (cv_cnt (fun d => (L 6 0).testBit d && ((L 6 1).testBit d && (L 6 2).testBit d)) k))), (0, .ref 0)] [] := by
    intro r
    induction r with
    | zero =>
      intro k hr
      obtain rfl : k = 8 := by omega
      refine cv_iload_n C (pc' := 5) rfl (D 4 (4, .iload_n 2, 1) rfl) rfl (j := 0) rfl ?_
      refine cv_bipush C (pc' := 7) rfl (D 5 (5, .bipush 8, 2) rfl) (v := nI 8) (by decide) ?_
      refine cv_icmp_ge C (pc' := 10) rfl (tgt := 51) (D 6 (7, .if_icmp .ge 44, 3) rfl) (by decide) (fun _ => ?_) (fun h => absurd h (by decide))
      refine cv_iload_n C (pc' := 52) rfl (D 30 (51, .iload_n 1, 1) rfl) rfl (j := 1) rfl ?_
      exact cv_iret C Rt rfl (D 31 (52, .ireturn, 1) rfl) ⟨rfl, rfl⟩
    | succ r ih4 =>
      intro k hr
      refine cv_iload_n C (pc' := 5) rfl (D 4 (4, .iload_n 2, 1) rfl) rfl (j := 0) rfl ?_
      refine cv_bipush C (pc' := 7) rfl (D 5 (5, .bipush 8, 2) rfl) (v := nI 8) (by decide) ?_
      refine cv_icmp_geN C (pc' := 10) rfl (by omega) (by omega) (tgt := 51) (D 6 (7, .if_icmp .ge 44, 3) rfl) (by decide) (fun b7 => ?_) (fun b7 => ?_)
      · skip
        omega
      · skip
        refine cv_iload_n C (pc' := 11) rfl (D 7 (10, .iload_n 1, 1) rfl) rfl (j := 1) rfl ?_
        refine cv_aload_n C (pc' := 12) rfl (D 8 (11, .aload_n 0, 1) rfl) rfl (j := 2) rfl ?_
        refine cv_iconst C (pc' := 13) rfl (D 9 (12, .iconst 0, 1) rfl) (v := nI 0) (by decide) ?_
        refine cv_iload_n C (pc' := 14) rfl (D 10 (13, .iload_n 2, 1) rfl) rfl (j := 0) rfl ?_
        refine cv_callV C (pc' := 17) rfl (k0 := 0) (ci := 7) (As := [.int (nI 0), .int (nI k)]) (rest := [.int (nI (cv_cnt (fun d => (L 6 0).testBit d && ((L 6 1).testBit d && (L 6 2).testBit d)) k))]) (idx := 136) (np := 2) (kX7_doesGive L 0 k μ hL hB (by omega) (by omega)) (by decide) rfl rfl rfl (by decide +kernel) rfl wmX7_136 wi_yX7_doesGive ws_yX7_doesGive wn_X7 wc_yX7_doesGive (by decide) (by decide) (D 11 (14, .invokevirtual 136, 3) rfl) (Nat.le_of_ble_eq_true rfl) rfl (fun w9 u9 h9 => ?_)
        rw [h9.1, h9.2]
        show cv_At X _ _ μ 17 _ [.int (cv_b ((L 6 0).testBit k)), .int (nI (cv_cnt (fun d => (L 6 0).testBit d && ((L 6 1).testBit d && (L 6 2).testBit d)) k))]
        refine cv_if_eqB C (pc' := 20) rfl (tgt := 42) (D 12 (17, .ifCond .eq 25, 3) rfl) (by decide) (fun b17 => ?_) (fun b17 => ?_)
        · skip
          refine cv_iconst C (pc' := 43) rfl (D 25 (42, .iconst 0, 1) rfl) (v := nI 0) (by decide) ?_
          refine cv_iaddN C (pc' := 44) rfl (D 26 (43, .iadd, 1) rfl) ?_
          refine cv_istore_n C (pc' := 45) rfl (D 27 (44, .istore_n 1, 1) rfl) rfl (by decide) (lv' := [(1, .int (nI ((cv_cnt (fun d => (L 6 0).testBit d && ((L 6 1).testBit d && (L 6 2).testBit d)) k) + 0))), (2, .int (nI k)), (0, .ref 0)]) rfl ?_
          refine cv_iincN C (pc' := 48) rfl (D 28 (45, .iinc 2 1, 3) rfl) (j := 1) rfl (by decide) (lv' := [(2, .int (nI (k + 1))), (1, .int (nI ((cv_cnt (fun d => (L 6 0).testBit d && ((L 6 1).testBit d && (L 6 2).testBit d)) k) + 0))), (0, .ref 0)]) rfl ?_
          refine cv_goto C (tgt := 4) (D 29 (48, .goto (-44), 3) rfl) (by decide) ?_
          have hw9 : (cv_cnt (fun d => (L 6 0).testBit d && ((L 6 1).testBit d && (L 6 2).testBit d)) k) + 0 = cv_cnt (fun d => (L 6 0).testBit d && ((L 6 1).testBit d && (L 6 2).testBit d)) (k + 1) := by simp [cv_cnt, b17]
          rw [hw9]
          exact ih4 (k + 1) (by omega)
        · skip
          refine cv_aload_n C (pc' := 21) rfl (D 13 (20, .aload_n 0, 1) rfl) rfl (j := 2) rfl ?_
          refine cv_iconst C (pc' := 22) rfl (D 14 (21, .iconst 1, 1) rfl) (v := nI 1) (by decide) ?_
          refine cv_iload_n C (pc' := 23) rfl (D 15 (22, .iload_n 2, 1) rfl) rfl (j := 0) rfl ?_
          refine cv_callV C (pc' := 26) rfl (k0 := 0) (ci := 7) (As := [.int (nI 1), .int (nI k)]) (rest := [.int (nI (cv_cnt (fun d => (L 6 0).testBit d && ((L 6 1).testBit d && (L 6 2).testBit d)) k))]) (idx := 136) (np := 2) (kX7_doesGive L 1 k μ hL hB (by omega) (by omega)) (by decide) rfl rfl rfl (by decide +kernel) rfl wmX7_136 wi_yX7_doesGive ws_yX7_doesGive wn_X7 wc_yX7_doesGive (by decide) (by decide) (D 16 (23, .invokevirtual 136, 3) rfl) (Nat.le_of_ble_eq_true rfl) rfl (fun w9 u9 h9 => ?_)
          rw [h9.1, h9.2]
          show cv_At X _ _ μ 26 _ [.int (cv_b ((L 6 1).testBit k)), .int (nI (cv_cnt (fun d => (L 6 0).testBit d && ((L 6 1).testBit d && (L 6 2).testBit d)) k))]
          refine cv_if_eqB C (pc' := 29) rfl (tgt := 42) (D 17 (26, .ifCond .eq 16, 3) rfl) (by decide) (fun b26 => ?_) (fun b26 => ?_)
          · skip
            refine cv_iconst C (pc' := 43) rfl (D 25 (42, .iconst 0, 1) rfl) (v := nI 0) (by decide) ?_
            refine cv_iaddN C (pc' := 44) rfl (D 26 (43, .iadd, 1) rfl) ?_
            refine cv_istore_n C (pc' := 45) rfl (D 27 (44, .istore_n 1, 1) rfl) rfl (by decide) (lv' := [(1, .int (nI ((cv_cnt (fun d => (L 6 0).testBit d && ((L 6 1).testBit d && (L 6 2).testBit d)) k) + 0))), (2, .int (nI k)), (0, .ref 0)]) rfl ?_
            refine cv_iincN C (pc' := 48) rfl (D 28 (45, .iinc 2 1, 3) rfl) (j := 1) rfl (by decide) (lv' := [(2, .int (nI (k + 1))), (1, .int (nI ((cv_cnt (fun d => (L 6 0).testBit d && ((L 6 1).testBit d && (L 6 2).testBit d)) k) + 0))), (0, .ref 0)]) rfl ?_
            refine cv_goto C (tgt := 4) (D 29 (48, .goto (-44), 3) rfl) (by decide) ?_
            have hw9 : (cv_cnt (fun d => (L 6 0).testBit d && ((L 6 1).testBit d && (L 6 2).testBit d)) k) + 0 = cv_cnt (fun d => (L 6 0).testBit d && ((L 6 1).testBit d && (L 6 2).testBit d)) (k + 1) := by simp [cv_cnt, b17, b26]
            rw [hw9]
            exact ih4 (k + 1) (by omega)
          · skip
            refine cv_aload_n C (pc' := 30) rfl (D 18 (29, .aload_n 0, 1) rfl) rfl (j := 2) rfl ?_
            refine cv_iconst C (pc' := 31) rfl (D 19 (30, .iconst 2, 1) rfl) (v := nI 2) (by decide) ?_
            refine cv_iload_n C (pc' := 32) rfl (D 20 (31, .iload_n 2, 1) rfl) rfl (j := 0) rfl ?_
            refine cv_callV C (pc' := 35) rfl (k0 := 0) (ci := 7) (As := [.int (nI 2), .int (nI k)]) (rest := [.int (nI (cv_cnt (fun d => (L 6 0).testBit d && ((L 6 1).testBit d && (L 6 2).testBit d)) k))]) (idx := 136) (np := 2) (kX7_doesGive L 2 k μ hL hB (by omega) (by omega)) (by decide) rfl rfl rfl (by decide +kernel) rfl wmX7_136 wi_yX7_doesGive ws_yX7_doesGive wn_X7 wc_yX7_doesGive (by decide) (by decide) (D 21 (32, .invokevirtual 136, 3) rfl) (Nat.le_of_ble_eq_true rfl) rfl (fun w9 u9 h9 => ?_)
            rw [h9.1, h9.2]
            show cv_At X _ _ μ 35 _ [.int (cv_b ((L 6 2).testBit k)), .int (nI (cv_cnt (fun d => (L 6 0).testBit d && ((L 6 1).testBit d && (L 6 2).testBit d)) k))]
            refine cv_if_eqB C (pc' := 38) rfl (tgt := 42) (D 22 (35, .ifCond .eq 7, 3) rfl) (by decide) (fun b35 => ?_) (fun b35 => ?_)
            · skip
              refine cv_iconst C (pc' := 43) rfl (D 25 (42, .iconst 0, 1) rfl) (v := nI 0) (by decide) ?_
              refine cv_iaddN C (pc' := 44) rfl (D 26 (43, .iadd, 1) rfl) ?_
              refine cv_istore_n C (pc' := 45) rfl (D 27 (44, .istore_n 1, 1) rfl) rfl (by decide) (lv' := [(1, .int (nI ((cv_cnt (fun d => (L 6 0).testBit d && ((L 6 1).testBit d && (L 6 2).testBit d)) k) + 0))), (2, .int (nI k)), (0, .ref 0)]) rfl ?_
              refine cv_iincN C (pc' := 48) rfl (D 28 (45, .iinc 2 1, 3) rfl) (j := 1) rfl (by decide) (lv' := [(2, .int (nI (k + 1))), (1, .int (nI ((cv_cnt (fun d => (L 6 0).testBit d && ((L 6 1).testBit d && (L 6 2).testBit d)) k) + 0))), (0, .ref 0)]) rfl ?_
              refine cv_goto C (tgt := 4) (D 29 (48, .goto (-44), 3) rfl) (by decide) ?_
              have hw9 : (cv_cnt (fun d => (L 6 0).testBit d && ((L 6 1).testBit d && (L 6 2).testBit d)) k) + 0 = cv_cnt (fun d => (L 6 0).testBit d && ((L 6 1).testBit d && (L 6 2).testBit d)) (k + 1) := by simp [cv_cnt, b17, b26, b35]
              rw [hw9]
              exact ih4 (k + 1) (by omega)
            · skip
              refine cv_iconst C (pc' := 39) rfl (D 23 (38, .iconst 1, 1) rfl) (v := nI 1) (by decide) ?_
              refine cv_goto C (tgt := 43) (D 24 (39, .goto 4, 3) rfl) (by decide) ?_
              refine cv_iaddN C (pc' := 44) rfl (D 26 (43, .iadd, 1) rfl) ?_
              refine cv_istore_n C (pc' := 45) rfl (D 27 (44, .istore_n 1, 1) rfl) rfl (by decide) (lv' := [(1, .int (nI ((cv_cnt (fun d => (L 6 0).testBit d && ((L 6 1).testBit d && (L 6 2).testBit d)) k) + 1))), (2, .int (nI k)), (0, .ref 0)]) rfl ?_
              refine cv_iincN C (pc' := 48) rfl (D 28 (45, .iinc 2 1, 3) rfl) (j := 1) rfl (by decide) (lv' := [(2, .int (nI (k + 1))), (1, .int (nI ((cv_cnt (fun d => (L 6 0).testBit d && ((L 6 1).testBit d && (L 6 2).testBit d)) k) + 1))), (0, .ref 0)]) rfl ?_
              refine cv_goto C (tgt := 4) (D 29 (48, .goto (-44), 3) rfl) (by decide) ?_
              have hw9 : (cv_cnt (fun d => (L 6 0).testBit d && ((L 6 1).testBit d && (L 6 2).testBit d)) k) + 1 = cv_cnt (fun d => (L 6 0).testBit d && ((L 6 1).testBit d && (L 6 2).testBit d)) (k + 1) := by simp [cv_cnt, b17, b26, b35]
              rw [hw9]
              exact ih4 (k + 1) (by omega)
  exact LP4 8 0 (by decide)

set_option maxHeartbeats 4000000 in
set_option maxRecDepth 100000 in
theorem pX7_many (tr : Int32) (ft : Nat) (sl : Nat → Option (Nat × Nat)) (sc : Nat → Nat → Int32) (L : cv_L) (rc : Nat) (rd : Nat → Nat) (rn : Nat → Option Nat) (x : Int32) (μ : cv_St) (hR : cv_RM tr ft sl sc L rc rd rn μ) (hB : cv_LB L) (hDB : cv_DB rc rd rn) : cv_Ct yX7_many cX7_many 2 (some .int) 2 0 0 17 cv_shM [.ref 0, .int x] μ (fun v u => v = some (.int (cv_a_many L rc x)) ∧ cv_RM tr ft sl sc L rc rd rn u) := by
  refine cv_enter (own := RX7) (by decide) rfl (Nat.le_of_ble_eq_true rfl) ?_
  intro X a C Rt hRm
  have D := @cv_dec _ _ dkX7_many
  obtain ⟨hTr, hFt, hSh, hL, hM, hD⟩ := id hR
  have hn6 := hB.1
  have hrc := hDB.1
  show cv_At X _ _ μ 0 [(0, .ref 0), (1, .int x)] []
  have hx := cv_c3 x
  rcases hx with hx | hx | hx | hx
  · skip
    subst hx
    refine cv_iload_n C (pc' := 1) rfl (D 0 (0, .iload_n 1, 1) rfl) rfl (j := 1) rfl ?_
    refine cv_if_ne C (pc' := 4) rfl (tgt := 11) (D 1 (1, .ifCond .ne 10, 3) rfl) (by decide) (fun h => absurd h (by decide)) (fun _ => ?_)
    refine cv_aload_n C (pc' := 5) rfl (D 2 (4, .aload_n 0, 1) rfl) rfl (j := 0) rfl ?_
    refine cv_get C (pc' := 8) rfl (k0 := 0) (i := 5) (ci := 7) (by decide) rfl rfl (by decide) (o := none) rfl iw_X7 wfX7_71 (D 3 (5, .getfield 71, 3) rfl) (v := .int (nI (L 7 0))) (congrArg Value.int hL.1) ?_
    refine cv_goto C (tgt := 37) (D 4 (8, .goto 29, 3) rfl) (by decide) ?_
    exact cv_iret C Rt rfl (D 18 (37, .ireturn, 1) rfl) ⟨congrArg (fun z => some (Value.int z)) (by unfold cv_a_many; rfl), hR⟩
  · skip
    subst hx
    refine cv_iload_n C (pc' := 1) rfl (D 0 (0, .iload_n 1, 1) rfl) rfl (j := 1) rfl ?_
    refine cv_if_ne C (pc' := 4) rfl (tgt := 11) (D 1 (1, .ifCond .ne 10, 3) rfl) (by decide) (fun _ => ?_) (fun h => absurd h (by decide))
    refine cv_iload_n C (pc' := 12) rfl (D 5 (11, .iload_n 1, 1) rfl) rfl (j := 1) rfl ?_
    refine cv_iconst C (pc' := 13) rfl (D 6 (12, .iconst 1, 1) rfl) (v := nI 1) (by decide) ?_
    refine cv_icmp_ne C (pc' := 16) rfl (tgt := 23) (D 7 (13, .if_icmp .ne 10, 3) rfl) (by decide) (fun h => absurd h (by decide)) (fun _ => ?_)
    refine cv_aload_n C (pc' := 17) rfl (D 8 (16, .aload_n 0, 1) rfl) rfl (j := 0) rfl ?_
    refine cv_callV C (pc' := 20) rfl (k0 := 0) (ci := 7) (As := []) (rest := []) (idx := 206) (np := 0) (kX7_allGive L μ hL hB) (by decide) rfl rfl rfl (by decide +kernel) rfl wmX7_206 wi_yX7_allGive ws_yX7_allGive wn_X7 wc_yX7_allGive (by decide) (by decide) (D 9 (17, .invokevirtual 206, 3) rfl) (Nat.le_of_ble_eq_true rfl) rfl (fun w9 u9 h9 => ?_)
    rw [h9.1, h9.2]
    show cv_At X _ _ μ 20 _ [.int (nI (cv_cnt (fun d => (L 6 0).testBit d && ((L 6 1).testBit d && (L 6 2).testBit d)) 8))]
    refine cv_goto C (tgt := 37) (D 10 (20, .goto 17, 3) rfl) (by decide) ?_
    exact cv_iret C Rt rfl (D 18 (37, .ireturn, 1) rfl) ⟨congrArg (fun z => some (Value.int z)) (by unfold cv_a_many; rfl), hR⟩
  · skip
    subst hx
    refine cv_iload_n C (pc' := 1) rfl (D 0 (0, .iload_n 1, 1) rfl) rfl (j := 1) rfl ?_
    refine cv_if_ne C (pc' := 4) rfl (tgt := 11) (D 1 (1, .ifCond .ne 10, 3) rfl) (by decide) (fun _ => ?_) (fun h => absurd h (by decide))
    refine cv_iload_n C (pc' := 12) rfl (D 5 (11, .iload_n 1, 1) rfl) rfl (j := 1) rfl ?_
    refine cv_iconst C (pc' := 13) rfl (D 6 (12, .iconst 1, 1) rfl) (v := nI 1) (by decide) ?_
    refine cv_icmp_ne C (pc' := 16) rfl (tgt := 23) (D 7 (13, .if_icmp .ne 10, 3) rfl) (by decide) (fun _ => ?_) (fun h => absurd h (by decide))
    refine cv_iload_n C (pc' := 24) rfl (D 11 (23, .iload_n 1, 1) rfl) rfl (j := 1) rfl ?_
    refine cv_iconst C (pc' := 25) rfl (D 12 (24, .iconst 2, 1) rfl) (v := nI 2) (by decide) ?_
    refine cv_icmp_ne C (pc' := 28) rfl (tgt := 35) (D 13 (25, .if_icmp .ne 10, 3) rfl) (by decide) (fun h => absurd h (by decide)) (fun _ => ?_)
    refine cv_aload_n C (pc' := 29) rfl (D 14 (28, .aload_n 0, 1) rfl) rfl (j := 0) rfl ?_
    refine cv_get C (pc' := 32) rfl (k0 := 0) (i := 26) (ci := 7) (by decide) rfl rfl (by decide) (o := none) rfl iw_X7 wfX7_105 (D 15 (29, .getfield 105, 3) rfl) (v := .int (nI rc)) (congrArg Value.int hD.1) ?_
    refine cv_goto C (tgt := 37) (D 16 (32, .goto 5, 3) rfl) (by decide) ?_
    exact cv_iret C Rt rfl (D 18 (37, .ireturn, 1) rfl) ⟨congrArg (fun z => some (Value.int z)) (by unfold cv_a_many; rfl), hR⟩
  · skip
    have hx0 := cv_cn hx (nI 0) (by decide)
    have hx1 := cv_cn hx (nI 1) (by decide)
    have hx2 := cv_cn hx (nI 2) (by decide)
    refine cv_iload_n C (pc' := 1) rfl (D 0 (0, .iload_n 1, 1) rfl) rfl (j := 1) rfl ?_
    refine cv_if_ne C (pc' := 4) rfl (tgt := 11) (D 1 (1, .ifCond .ne 10, 3) rfl) (by decide) (fun b1 => ?_) (fun b1 => ?_)
    · skip
      refine cv_iload_n C (pc' := 12) rfl (D 5 (11, .iload_n 1, 1) rfl) rfl (j := 1) rfl ?_
      refine cv_iconst C (pc' := 13) rfl (D 6 (12, .iconst 1, 1) rfl) (v := nI 1) (by decide) ?_
      refine cv_icmp_ne C (pc' := 16) rfl (tgt := 23) (D 7 (13, .if_icmp .ne 10, 3) rfl) (by decide) (fun b13 => ?_) (fun b13 => ?_)
      · skip
        refine cv_iload_n C (pc' := 24) rfl (D 11 (23, .iload_n 1, 1) rfl) rfl (j := 1) rfl ?_
        refine cv_iconst C (pc' := 25) rfl (D 12 (24, .iconst 2, 1) rfl) (v := nI 2) (by decide) ?_
        refine cv_icmp_ne C (pc' := 28) rfl (tgt := 35) (D 13 (25, .if_icmp .ne 10, 3) rfl) (by decide) (fun b25 => ?_) (fun b25 => ?_)
        · skip
          refine cv_bipush C (pc' := 37) rfl (D 17 (35, .bipush (-2), 2) rfl) (v := -2) (by decide) ?_
          exact cv_iret C Rt rfl (D 18 (37, .ireturn, 1) rfl) ⟨congrArg (fun z => some (Value.int z)) (by unfold cv_a_many; rw [if_neg (show ¬ x = 0 from hx0), if_neg (show ¬ x = 1 from hx1), if_neg (show ¬ x = 2 from hx2)]), hR⟩
        · skip
          exact absurd b25 hx2
      · skip
        exact absurd b13 hx1
    · skip
      exact absurd b1 hx0

