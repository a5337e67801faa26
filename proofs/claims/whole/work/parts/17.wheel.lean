set_option maxHeartbeats 4000000 in
set_option maxRecDepth 100000 in
theorem kX5_begin (d : Nat) (σ : cv_St)  : cv_Ct yX5_begin cX5_begin 2 none 0 0 0 26 cv_shC [.ref 22, .int (nI d)] σ (fun v u => v = none ∧ (∀ k, k ≠ 22 → u k = σ k) ∧ cv_WC (d, 0, 0, 0) u) := by
  refine cv_enter (own := RX5) (by decide) rfl (Nat.le_of_ble_eq_true rfl) ?_
  intro X a C Rt hRm
  have D := @cv_dec _ _ dkX5_begin
  show cv_At X _ _ σ 0 [(0, .ref 22), (1, .int (nI d))] []
  refine cv_aload_n C (pc' := 1) rfl (D 0 (0, .aload_n 0, 1) rfl) rfl (j := 0) rfl ?_
  refine cv_iload_n C (pc' := 2) rfl (D 1 (1, .iload_n 1, 1) rfl) rfl (j := 1) rfl ?_
  refine cv_put C (pc' := 5) rfl (k0 := 22) (i := 0) (ci := 5) (by decide) rfl rfl (by decide) rfl iw_X5 tyX5 tyX5_ok nmX5 wfX5_9 rfl rfl rfl (D 2 (2, .putfield 9, 3) rfl) ?_
  refine cv_aload_n C (pc' := 6) rfl (D 3 (5, .aload_n 0, 1) rfl) rfl (j := 0) rfl ?_
  refine cv_iconst C (pc' := 7) rfl (D 4 (6, .iconst 0, 1) rfl) (v := nI 0) (by decide) ?_
  refine cv_put C (pc' := 10) rfl (k0 := 22) (i := 1) (ci := 5) (by decide) rfl rfl (by decide) rfl iw_X5 tyX5 tyX5_ok nmX5 wfX5_15 rfl rfl rfl (D 5 (7, .putfield 15, 3) rfl) ?_
  refine cv_aload_n C (pc' := 11) rfl (D 6 (10, .aload_n 0, 1) rfl) rfl (j := 0) rfl ?_
  refine cv_iconst C (pc' := 12) rfl (D 7 (11, .iconst 0, 1) rfl) (v := nI 0) (by decide) ?_
  refine cv_put C (pc' := 15) rfl (k0 := 22) (i := 2) (ci := 5) (by decide) rfl rfl (by decide) rfl iw_X5 tyX5 tyX5_ok nmX5 wfX5_18 rfl rfl rfl (D 8 (12, .putfield 18, 3) rfl) ?_
  refine cv_aload_n C (pc' := 16) rfl (D 9 (15, .aload_n 0, 1) rfl) rfl (j := 0) rfl ?_
  refine cv_iconst C (pc' := 17) rfl (D 10 (16, .iconst 0, 1) rfl) (v := nI 0) (by decide) ?_
  refine cv_put C (pc' := 20) rfl (k0 := 22) (i := 3) (ci := 5) (by decide) rfl rfl (by decide) rfl iw_X5 tyX5 tyX5_ok nmX5 wfX5_21 rfl rfl rfl (D 11 (17, .putfield 21, 3) rfl) ?_
  exact cv_vret C Rt (D 12 (20, .return_, 1) rfl) ⟨rfl, fun k hk => by simp only [cv_u_c hk], ⟨by simp [cv_u_at], by simp [cv_u_at, nI_0], by simp [cv_u_at, nI_0], by simp [cv_u_at, nI_0]⟩⟩

set_option maxHeartbeats 4000000 in
set_option maxRecDepth 100000 in
theorem kX5_waitsADay (q : cv_Q) (σ : cv_St) (hW : cv_WC q σ) (hWB : cv_WB q) : cv_Ct yX5_waitsADay cX5_waitsADay 1 (some .boolean) 0 0 0 26 cv_shC [.ref 22] σ (fun v u => v = some (.int (cv_b (if q.1 < 7 then some (q.1 + 1, q.2.1, q.2.2.1, q.2.2.2 + 1) else (none : Option cv_Q)).isSome)) ∧ (∀ k, k ≠ 22 → u k = σ k) ∧ ∀ q2, (if q.1 < 7 then some (q.1 + 1, q.2.1, q.2.2.1, q.2.2.2 + 1) else (none : Option cv_Q)) = some q2 → cv_WC q2 u) := by
  refine cv_enter (own := RX5) (by decide) rfl (Nat.le_of_ble_eq_true rfl) ?_
  intro X a C Rt hRm
  have D := @cv_dec _ _ dkX5_waitsADay
  obtain ⟨w1, w2, w3, w4⟩ := id hWB
  show cv_At X _ _ σ 0 [(0, .ref 22)] []
  refine cv_aload_n C (pc' := 1) rfl (D 0 (0, .aload_n 0, 1) rfl) rfl (j := 0) rfl ?_
  refine cv_get C (pc' := 4) rfl (k0 := 22) (i := 0) (ci := 5) (by decide) rfl rfl (by decide) (o := none) rfl iw_X5 wfX5_9 (D 1 (1, .getfield 9, 3) rfl) (v := .int (nI q.1)) (congrArg Value.int hW.1) ?_
  refine cv_bipush C (pc' := 6) rfl (D 2 (4, .bipush 7, 2) rfl) (v := nI 7) (by decide) ?_
  refine cv_icmp_ltN C (pc' := 9) rfl (by omega) (by omega) (tgt := 11) (D 3 (6, .if_icmp .lt 5, 3) rfl) (by decide) (fun b6 => ?_) (fun b6 => ?_)
  · skip
    refine cv_aload_n C (pc' := 12) rfl (D 6 (11, .aload_n 0, 1) rfl) rfl (j := 0) rfl ?_
    refine cv_dup C (pc' := 13) rfl (D 7 (12, .dup, 1) rfl) rfl ?_
    refine cv_get C (pc' := 16) rfl (k0 := 22) (i := 0) (ci := 5) (by decide) rfl rfl (by decide) (o := none) rfl iw_X5 wfX5_9 (D 8 (13, .getfield 9, 3) rfl) (v := .int (nI q.1)) (congrArg Value.int hW.1) ?_
    refine cv_iconst C (pc' := 17) rfl (D 9 (16, .iconst 1, 1) rfl) (v := nI 1) (by decide) ?_
    refine cv_iaddN C (pc' := 18) rfl (D 10 (17, .iadd, 1) rfl) ?_
    refine cv_put C (pc' := 21) rfl (k0 := 22) (i := 0) (ci := 5) (by decide) rfl rfl (by decide) rfl iw_X5 tyX5 tyX5_ok nmX5 wfX5_9 rfl rfl rfl (D 11 (18, .putfield 9, 3) rfl) ?_
    refine cv_aload_n C (pc' := 22) rfl (D 12 (21, .aload_n 0, 1) rfl) rfl (j := 0) rfl ?_
    refine cv_dup C (pc' := 23) rfl (D 13 (22, .dup, 1) rfl) rfl ?_
    refine cv_get C (pc' := 26) rfl (k0 := 22) (i := 3) (ci := 5) (by decide) rfl rfl (by decide) (o := none) rfl iw_X5 wfX5_21 (D 14 (23, .getfield 21, 3) rfl) (v := .int (nI q.2.2.2)) (congrArg Value.int ((cv_u_i (by omega)).trans hW.2.2.2)) ?_
    refine cv_iconst C (pc' := 27) rfl (D 15 (26, .iconst 1, 1) rfl) (v := nI 1) (by decide) ?_
    refine cv_iaddN C (pc' := 28) rfl (D 16 (27, .iadd, 1) rfl) ?_
    refine cv_put C (pc' := 31) rfl (k0 := 22) (i := 3) (ci := 5) (by decide) rfl rfl (by decide) rfl iw_X5 tyX5 tyX5_ok nmX5 wfX5_21 rfl rfl rfl (D 17 (28, .putfield 21, 3) rfl) ?_
    refine cv_iconst C (pc' := 32) rfl (D 18 (31, .iconst 1, 1) rfl) (v := nI 1) (by decide) ?_
    exact cv_iret C Rt (by decide) (D 19 (32, .ireturn, 1) rfl) (by rw [if_pos (by omega)]; exact ⟨rfl, fun k hk => by simp only [cv_u_c hk], fun q2 h => by cases h; exact ⟨by simp [cv_u_at, hW.1], by simp [cv_u_at, hW.2.1], by simp [cv_u_at, hW.2.2.1], by simp [cv_u_at, hW.2.2.2]⟩⟩)
  · skip
    refine cv_iconst C (pc' := 10) rfl (D 4 (9, .iconst 0, 1) rfl) (v := nI 0) (by decide) ?_
    exact cv_iret C Rt (by decide) (D 5 (10, .ireturn, 1) rfl) (by rw [if_neg (by omega)]; exact ⟨rfl, fun k _ => rfl, fun q2 h => by cases h⟩)

set_option maxHeartbeats 4000000 in
set_option maxRecDepth 100000 in
theorem kX5_gets (L : cv_L) (q : cv_Q) (w b : Nat) (σ : cv_St) (hL : cv_LC L σ) (hB : cv_LB L) (hW : cv_WC q σ) (hWB : cv_WB q) (hw : w < 3) (hb : b < 3) : cv_Ct yX5_gets cX5_gets 4 (some .boolean) 1 0 0 26 cv_shC [.ref 22, .int (nI w), .int (nI b), .ref 10] σ (fun v u => v = some (.int (cv_b (if q.2.1 = w ∧ q.2.2.1 = b ∧ (L 6 w).testBit q.1 = true then some (q.1, q.2.1, b + 1, q.2.2.2) else (none : Option cv_Q)).isSome)) ∧ (∀ k, k ≠ 22 → u k = σ k) ∧ ∀ q2, (if q.2.1 = w ∧ q.2.2.1 = b ∧ (L 6 w).testBit q.1 = true then some (q.1, q.2.1, b + 1, q.2.2.2) else (none : Option cv_Q)) = some q2 → cv_WC q2 u) := by
  refine cv_enter (own := RX5) (by decide) rfl (Nat.le_of_ble_eq_true rfl) ?_
  intro X a C Rt hRm
  have D := @cv_dec _ _ dkX5_gets
  obtain ⟨w1, w2, w3, w4⟩ := id hWB
  have hgw := hB.2.2.2 w hw
  show cv_At X _ _ σ 0 [(0, .ref 22), (1, .int (nI w)), (2, .int (nI b)), (3, .ref 10)] []
  refine cv_aload_n C (pc' := 1) rfl (D 0 (0, .aload_n 0, 1) rfl) rfl (j := 0) rfl ?_
  refine cv_get C (pc' := 4) rfl (k0 := 22) (i := 1) (ci := 5) (by decide) rfl rfl (by decide) (o := none) rfl iw_X5 wfX5_15 (D 1 (1, .getfield 15, 3) rfl) (v := .int (nI q.2.1)) (congrArg Value.int hW.2.1) ?_
  refine cv_iload_n C (pc' := 5) rfl (D 2 (4, .iload_n 1, 1) rfl) rfl (j := 1) rfl ?_
  refine cv_icmp_neN C (pc' := 8) rfl (by omega) (by omega) (tgt := 32) (D 3 (5, .if_icmp .ne 27, 3) rfl) (by decide) (fun b5 => ?_) (fun b5 => ?_)
  · skip
    refine cv_iconst C (pc' := 33) rfl (D 16 (32, .iconst 0, 1) rfl) (v := nI 0) (by decide) ?_
    exact cv_iret C Rt (by decide) (D 17 (33, .ireturn, 1) rfl) (by rw [if_neg (by intro h; omega)]; exact ⟨rfl, fun k _ => rfl, fun q2 h => by cases h⟩)
  · skip
    refine cv_aload_n C (pc' := 9) rfl (D 4 (8, .aload_n 0, 1) rfl) rfl (j := 0) rfl ?_
    refine cv_get C (pc' := 12) rfl (k0 := 22) (i := 2) (ci := 5) (by decide) rfl rfl (by decide) (o := none) rfl iw_X5 wfX5_18 (D 5 (9, .getfield 18, 3) rfl) (v := .int (nI q.2.2.1)) (congrArg Value.int hW.2.2.1) ?_
    refine cv_iload_n C (pc' := 13) rfl (D 6 (12, .iload_n 2, 1) rfl) rfl (j := 2) rfl ?_
    refine cv_icmp_neN C (pc' := 16) rfl (by omega) (by omega) (tgt := 32) (D 7 (13, .if_icmp .ne 19, 3) rfl) (by decide) (fun b13 => ?_) (fun b13 => ?_)
    · skip
      refine cv_iconst C (pc' := 33) rfl (D 16 (32, .iconst 0, 1) rfl) (v := nI 0) (by decide) ?_
      exact cv_iret C Rt (by decide) (D 17 (33, .ireturn, 1) rfl) (by rw [if_neg (by intro h; omega)]; exact ⟨rfl, fun k _ => rfl, fun q2 h => by cases h⟩)
    · skip
      refine cv_aload_n C (pc' := 17) rfl (D 8 (16, .aload_n 3, 1) rfl) rfl (j := 3) rfl ?_
      refine cv_get C (pc' := 20) rfl (k0 := 10) (i := 2) (ci := 0) (by decide) rfl rfl (by decide) (o := some 19) rfl iw_X0 wfX5_36 (D 9 (17, .getfield 36, 3) rfl) rfl ?_
      refine cv_iload_n C (pc' := 21) rfl (D 10 (20, .iload_n 1, 1) rfl) rfl (j := 1) rfl ?_
      refine cv_iald C (pc' := 22) rfl (k0 := 19) (j := w) (by decide) rfl rfl (by omega) (by decide) (D 11 (21, .iaload, 1) rfl) (v := nI (L 6 w)) (hL.2.2.1 _ (by omega)) ?_
      refine cv_aload_n C (pc' := 23) rfl (D 12 (22, .aload_n 0, 1) rfl) rfl (j := 0) rfl ?_
      refine cv_get C (pc' := 26) rfl (k0 := 22) (i := 0) (ci := 5) (by decide) rfl rfl (by decide) (o := none) rfl iw_X5 wfX5_9 (D 13 (23, .getfield 9, 3) rfl) (v := .int (nI q.1)) (congrArg Value.int hW.1) ?_
      refine cv_callSN C (pc' := 29) rfl (As := [.int (nI (L 6 w)), .int (nI q.1)]) (rest := []) (idx := 42) (np := 2) (kX6_hasDay (L 6 w) q.1 σ (by omega) (by omega)) (by decide +kernel) rfl weX5_42 wt_yX6_hasDay wn_X6 wc_yX6_hasDay (by decide) (by decide) (D 14 (26, .invokestatic 42, 3) rfl) (Nat.le_of_ble_eq_true rfl) rfl (fun w9 u9 h9 => ?_)
      rw [h9.1, h9.2]
      show cv_At X _ _ σ 29 _ [.int (cv_b ((L 6 w).testBit q.1))]
      refine cv_if_neB C (pc' := 32) rfl (tgt := 34) (D 15 (29, .ifCond .ne 5, 3) rfl) (by decide) (fun b29 => ?_) (fun b29 => ?_)
      · skip
        refine cv_aload_n C (pc' := 35) rfl (D 18 (34, .aload_n 0, 1) rfl) rfl (j := 0) rfl ?_
        refine cv_dup C (pc' := 36) rfl (D 19 (35, .dup, 1) rfl) rfl ?_
        refine cv_get C (pc' := 39) rfl (k0 := 22) (i := 2) (ci := 5) (by decide) rfl rfl (by decide) (o := none) rfl iw_X5 wfX5_18 (D 20 (36, .getfield 18, 3) rfl) (v := .int (nI q.2.2.1)) (congrArg Value.int hW.2.2.1) ?_
        refine cv_iconst C (pc' := 40) rfl (D 21 (39, .iconst 1, 1) rfl) (v := nI 1) (by decide) ?_
        refine cv_iaddN C (pc' := 41) rfl (D 22 (40, .iadd, 1) rfl) ?_
        refine cv_put C (pc' := 44) rfl (k0 := 22) (i := 2) (ci := 5) (by decide) rfl rfl (by decide) rfl iw_X5 tyX5 tyX5_ok nmX5 wfX5_18 rfl rfl rfl (D 23 (41, .putfield 18, 3) rfl) ?_
        refine cv_iconst C (pc' := 45) rfl (D 24 (44, .iconst 1, 1) rfl) (v := nI 1) (by decide) ?_
        exact cv_iret C Rt (by decide) (D 25 (45, .ireturn, 1) rfl) (by rw [if_pos ⟨by omega, by omega, b29⟩]; exact ⟨rfl, fun k hk => by simp only [cv_u_c hk], fun q2 h => by cases h; exact ⟨by simp [cv_u_at, hW.1], by simp [cv_u_at, hW.2.1], by rw [cv_u_s, b13], by simp [cv_u_at, hW.2.2.2]⟩⟩)
      · skip
        refine cv_iconst C (pc' := 33) rfl (D 16 (32, .iconst 0, 1) rfl) (v := nI 0) (by decide) ?_
        exact cv_iret C Rt (by decide) (D 17 (33, .ireturn, 1) rfl) (by rw [if_neg (by intro h; rw [h.2.2] at b29; cases b29)]; exact ⟨rfl, fun k _ => rfl, fun q2 h => by cases h⟩)

set_option maxHeartbeats 4000000 in
set_option maxRecDepth 100000 in
theorem kX5_crosses (L : cv_L) (q : cv_Q) (p : Nat) (σ : cv_St) (hL : cv_LC L σ) (hB : cv_LB L) (hW : cv_WC q σ) (hWB : cv_WB q) (hp : p < L 7 0) : cv_Ct yX5_crosses cX5_crosses 5 (some .boolean) 2 0 0 26 cv_shC [.ref 22, .int (nI p), .ref 10] σ (fun v u => v = some (.int (cv_b (match cv_ar L p q.2.1 q.1 with | none => (none : Option cv_Q) | some c => some (c, (cv_oe L p q.2.1).getD 0, q.2.2.1, q.2.2.2)).isSome)) ∧ (∀ k, k ≠ 22 → u k = σ k) ∧ ∀ q2, (match cv_ar L p q.2.1 q.1 with | none => (none : Option cv_Q) | some c => some (c, (cv_oe L p q.2.1).getD 0, q.2.2.1, q.2.2.2)) = some q2 → cv_WC q2 u) := by
  refine cv_enter (own := RX5) (by decide) rfl (Nat.le_of_ble_eq_true rfl) ?_
  intro X a C Rt hRm
  have D := @cv_dec _ _ dkX5_crosses
  obtain ⟨w1, w2, w3, w4⟩ := id hWB
  have hp6 : p < 6 := Nat.lt_of_lt_of_le hp hB.1
  show cv_At X _ _ σ 0 [(0, .ref 22), (1, .int (nI p)), (2, .ref 10)] []
  refine cv_iload_n C (pc' := 1) rfl (D 0 (0, .iload_n 1, 1) rfl) rfl (j := 1) rfl ?_
  refine cv_aload_n C (pc' := 2) rfl (D 1 (1, .aload_n 2, 1) rfl) rfl (j := 2) rfl ?_
  refine cv_get C (pc' := 5) rfl (k0 := 10) (i := 6) (ci := 0) (by decide) rfl rfl (by decide) (o := none) rfl iw_X0 wfX5_46 (D 2 (2, .getfield 46, 3) rfl) (v := .int (nI (L 7 0))) (congrArg Value.int hL.1) ?_
  refine cv_callSN C (pc' := 8) rfl (As := [.int (nI p), .int (nI (L 7 0))]) (rest := []) (idx := 49) (np := 2) (kX6_isBelow (nI p) (L 7 0) σ) (by decide +kernel) rfl weX5_49 wt_yX6_isBelow wn_X6 wc_yX6_isBelow (by decide) (by decide) (D 3 (5, .invokestatic 49, 3) rfl) (Nat.le_of_ble_eq_true rfl) rfl (fun w9 u9 h9 => ?_)
  rw [h9.1, h9.2]
  show cv_At X _ _ σ 8 _ [.int (cv_b (cv_in (nI p) (L 7 0)))]
  refine cv_if_neB C (pc' := 11) rfl (tgt := 13) (D 4 (8, .ifCond .ne 5, 3) rfl) (by decide) (fun b8 => ?_) (fun b8 => ?_)
  · skip
    refine cv_aload_n C (pc' := 14) rfl (D 7 (13, .aload_n 2, 1) rfl) rfl (j := 2) rfl ?_
    refine cv_get C (pc' := 17) rfl (k0 := 10) (i := 0) (ci := 0) (by decide) rfl rfl (by decide) (o := some 11) rfl iw_X0 wfX5_52 (D 8 (14, .getfield 52, 3) rfl) rfl ?_
    refine cv_iload_n C (pc' := 18) rfl (D 9 (17, .iload_n 1, 1) rfl) rfl (j := 1) rfl ?_
    refine cv_aald C (pc' := 19) rfl (k0 := 11) (j := p) (r := 12 + p) (by decide) rfl rfl rfl (cv_ix_p hp6) (by decide) (D 10 (18, .aaload, 1) rfl) ?_
    refine cv_astore_n C (pc' := 20) rfl (D 11 (19, .astore_n 3, 1) rfl) rfl (by decide) (lv' := [(3, .ref (12 + p)), (0, .ref 22), (1, .int (nI p)), (2, .ref 10)]) rfl ?_
    refine cv_aload_n C (pc' := 21) rfl (D 12 (20, .aload_n 2, 1) rfl) rfl (j := 3) rfl ?_
    refine cv_aload_n C (pc' := 22) rfl (D 13 (21, .aload_n 3, 1) rfl) rfl (j := 0) rfl ?_
    refine cv_aload_n C (pc' := 23) rfl (D 14 (22, .aload_n 0, 1) rfl) rfl (j := 1) rfl ?_
    refine cv_get C (pc' := 26) rfl (k0 := 22) (i := 1) (ci := 5) (by decide) rfl rfl (by decide) (o := none) rfl iw_X5 wfX5_15 (D 15 (23, .getfield 15, 3) rfl) (v := .int (nI q.2.1)) (congrArg Value.int hW.2.1) ?_
    refine cv_aload_n C (pc' := 27) rfl (D 16 (26, .aload_n 0, 1) rfl) rfl (j := 1) rfl ?_
    refine cv_get C (pc' := 30) rfl (k0 := 22) (i := 0) (ci := 5) (by decide) rfl rfl (by decide) (o := none) rfl iw_X5 wfX5_9 (D 17 (27, .getfield 9, 3) rfl) (v := .int (nI q.1)) (congrArg Value.int hW.1) ?_
    refine cv_callV C (pc' := 33) rfl (k0 := 10) (ci := 0) (As := [.ref (12 + p), .int (nI q.2.1), .int (nI q.1)]) (rest := []) (idx := 56) (np := 3) (kX0_arrival L p q.2.1 q.1 σ hL hB hp w2 w1) (by decide) rfl rfl rfl (by decide +kernel) rfl wmX5_56 wi_yX0_arrival ws_yX0_arrival wn_X0 wc_yX0_arrival (by decide) (by decide) (D 18 (30, .invokevirtual 56, 3) rfl) (Nat.le_of_ble_eq_true rfl) rfl (fun w9 u9 h9 => ?_)
    rw [h9.1, h9.2]
    show cv_At X _ _ σ 33 _ [.int (cv_o (cv_ar L p q.2.1 q.1))]
    refine cv_istore C (pc' := 35) rfl (D 19 (33, .istore 4, 2) rfl) (by decide) (lv' := [(4, .int (cv_o (cv_ar L p q.2.1 q.1))), (3, .ref (12 + p)), (0, .ref 22), (1, .int (nI p)), (2, .ref 10)]) rfl ?_
    refine cv_iload C (pc' := 37) rfl (D 20 (35, .iload 4, 2) rfl) (j := 0) rfl ?_
    refine cv_bipush C (pc' := 39) rfl (D 21 (37, .bipush (-9), 2) rfl) (v := -9) (by decide) ?_
    refine cv_icmp_neO C (pc' := 42) rfl (fun z h => Nat.lt_of_le_of_lt (cv_ar_le h) (by decide)) (tgt := 44) (D 22 (39, .if_icmp .ne 5, 3) rfl) (by decide) (fun z39 b39 => ?_) (fun b39 => ?_)
    · skip
      have ez39 : cv_o (cv_ar L p q.2.1 q.1) = nI z39 := by rw [b39]; rfl
      rw [ez39]
      refine cv_aload_n C (pc' := 45) rfl (D 25 (44, .aload_n 0, 1) rfl) rfl (j := 2) rfl ?_
      refine cv_iload C (pc' := 47) rfl (D 26 (45, .iload 4, 2) rfl) (j := 0) rfl ?_
      refine cv_put C (pc' := 50) rfl (k0 := 22) (i := 0) (ci := 5) (by decide) rfl rfl (by decide) rfl iw_X5 tyX5 tyX5_ok nmX5 wfX5_9 rfl rfl rfl (D 27 (47, .putfield 9, 3) rfl) ?_
      refine cv_aload_n C (pc' := 51) rfl (D 28 (50, .aload_n 0, 1) rfl) rfl (j := 2) rfl ?_
      refine cv_aload_n C (pc' := 52) rfl (D 29 (51, .aload_n 3, 1) rfl) rfl (j := 1) rfl ?_
      refine cv_aload_n C (pc' := 53) rfl (D 30 (52, .aload_n 0, 1) rfl) rfl (j := 2) rfl ?_
      refine cv_get C (pc' := 56) rfl (k0 := 22) (i := 1) (ci := 5) (by decide) rfl rfl (by decide) (o := none) rfl iw_X5 wfX5_15 (D 31 (53, .getfield 15, 3) rfl) (v := .int (nI q.2.1)) (congrArg Value.int ((cv_u_i (by omega)).trans hW.2.1)) ?_
      refine cv_callV C (pc' := 59) rfl (k0 := 12 + p) (ci := 1) (As := [.int (nI q.2.1)]) (rest := [.ref 22]) (idx := 60) (np := 1) (kX1_otherEnd L p q.2.1 (cv_u σ 22 0 (nI z39)) (cv_LC_k (fun k _ _ h => cv_u_c h) hL hB) hB hp w2) (cv_lt_p hp6) (cv_shC_p hp6) rfl rfl (by decide +kernel) rfl wmX5_60 wi_yX1_otherEnd ws_yX1_otherEnd wn_X1 wc_yX1_otherEnd (by decide) (by decide) (D 32 (56, .invokevirtual 60, 3) rfl) (Nat.le_of_ble_eq_true rfl) rfl (fun w9 u9 h9 => ?_)
      rw [h9.1, h9.2]
      show cv_At X _ _ (cv_u σ 22 0 (nI z39)) 59 _ [.int (cv_o (cv_oe L p q.2.1)), .ref 22]
      refine cv_put C (pc' := 62) rfl (k0 := 22) (i := 1) (ci := 5) (by decide) rfl rfl (by decide) rfl iw_X5 tyX5 tyX5_ok nmX5 wfX5_15 rfl rfl rfl (D 33 (59, .putfield 15, 3) rfl) ?_
      obtain ⟨z9, hz9⟩ := cv_ar_oe b39
      refine cv_iconst C (pc' := 63) rfl (D 34 (62, .iconst 1, 1) rfl) (v := nI 1) (by decide) ?_
      exact cv_iret C Rt (by decide) (D 35 (63, .ireturn, 1) rfl) (by rw [b39]; exact ⟨rfl, fun k hk => by simp only [cv_u_c hk], fun q2 h => by cases h; exact ⟨by simp [cv_u_at], by simp [cv_u_at]; rw [hz9]; rfl, by simp [cv_u_at, hW.2.2.1], by simp [cv_u_at, hW.2.2.2]⟩⟩)
    · skip
      refine cv_iconst C (pc' := 43) rfl (D 23 (42, .iconst 0, 1) rfl) (v := nI 0) (by decide) ?_
      exact cv_iret C Rt (by decide) (D 24 (43, .ireturn, 1) rfl) (by rw [b39]; exact ⟨rfl, fun k _ => rfl, fun q2 h => by cases h⟩)
  · skip
    rw [cv_in_nI hp (by have := hB.1; omega)] at b8; cases b8

set_option maxHeartbeats 4000000 in
set_option maxRecDepth 100000 in
theorem kX5_takesStep (L : cv_L) (q : cv_Q) (x : Nat) (σ : cv_St) (hL : cv_LC L σ) (hB : cv_LB L) (hW : cv_WC q σ) (hWB : cv_WB q) (hx : x < 6 → x < L 7 0) (hx9 : x ≤ 8) : cv_Ct yX5_takesStep cX5_takesStep 3 (some .boolean) 3 0 0 26 cv_shC [.ref 22, .int (nI x), .ref 10] σ (fun v u => v = some (.int (cv_b (cv_st L x q).isSome)) ∧ (∀ k, k ≠ 22 → u k = σ k) ∧ ∀ q2, (cv_st L x q) = some q2 → cv_WC q2 u) := by
  refine cv_enter (own := RX5) (by decide) rfl (Nat.le_of_ble_eq_true rfl) ?_
  intro X a C Rt hRm
  have D := @cv_dec _ _ dkX5_takesStep
  obtain ⟨w1, w2, w3, w4⟩ := id hWB
  show cv_At X _ _ σ 0 [(0, .ref 22), (1, .int (nI x)), (2, .ref 10)] []
  refine cv_aload_n C (pc' := 1) rfl (D 0 (0, .aload_n 0, 1) rfl) rfl (j := 0) rfl ?_
  refine cv_get C (pc' := 4) rfl (k0 := 22) (i := 2) (ci := 5) (by decide) rfl rfl (by decide) (o := none) rfl iw_X5 wfX5_18 (D 1 (1, .getfield 18, 3) rfl) (v := .int (nI q.2.2.1)) (congrArg Value.int hW.2.2.1) ?_
  refine cv_iconst C (pc' := 5) rfl (D 2 (4, .iconst 2, 1) rfl) (v := nI 2) (by decide) ?_
  refine cv_icmp_neN C (pc' := 8) rfl (by omega) (by omega) (tgt := 10) (D 3 (5, .if_icmp .ne 5, 3) rfl) (by decide) (fun b5 => ?_) (fun b5 => ?_)
  · skip
    refine cv_iload_n C (pc' := 11) rfl (D 6 (10, .iload_n 1, 1) rfl) rfl (j := 1) rfl ?_
    have hk : x = 6 ∨ x = 7 ∨ x = 8 ∨ x < 6 := by omega
    rcases hk with hx0 | hx0 | hx0 | hx0
    · skip
      refine cv_top (w := nI 6) (congrArg nI hx0) ?_
      refine cv_tableIn C (D 7 (11, .tableswitch 46 6 8 #[25, 30, 38], 25) rfl) (tgt := 36) (by decide) (by decide) rfl (by decide) ?_
      refine cv_aload_n C (pc' := 37) rfl (D 8 (36, .aload_n 0, 1) rfl) rfl (j := 0) rfl ?_
      refine cv_callV C (pc' := 40) rfl (k0 := 22) (ci := 5) (As := []) (rest := []) (idx := 24) (np := 0) (kX5_waitsADay q σ hW hWB) (by decide) rfl rfl rfl (by decide +kernel) rfl wmX5_24 wi_yX5_waitsADay ws_yX5_waitsADay wn_X5 wc_yX5_waitsADay (by decide) (by decide) (D 9 (37, .invokevirtual 24, 3) rfl) (Nat.le_of_ble_eq_true rfl) rfl (fun w37 u37 h37 => ?_)
      obtain ⟨e1, e2, e3⟩ := h37
      rw [e1]
      have est : cv_st L x q = (if q.1 < 7 then some (q.1 + 1, q.2.1, q.2.2.1, q.2.2.2 + 1) else (none : Option cv_Q)) := by unfold cv_st; simp [b5, hx0]
      exact cv_iret C Rt (cv_b_nar _) (D 10 (40, .ireturn, 1) rfl) (by rw [est]; exact ⟨rfl, e2, e3⟩)
    · skip
      refine cv_top (w := nI 7) (congrArg nI hx0) ?_
      refine cv_tableIn C (D 7 (11, .tableswitch 46 6 8 #[25, 30, 38], 25) rfl) (tgt := 41) (by decide) (by decide) rfl (by decide) ?_
      refine cv_aload_n C (pc' := 42) rfl (D 11 (41, .aload_n 0, 1) rfl) rfl (j := 0) rfl ?_
      refine cv_iconst C (pc' := 43) rfl (D 12 (42, .iconst 1, 1) rfl) (v := nI 1) (by decide) ?_
      refine cv_iconst C (pc' := 44) rfl (D 13 (43, .iconst 0, 1) rfl) (v := nI 0) (by decide) ?_
      refine cv_aload_n C (pc' := 45) rfl (D 14 (44, .aload_n 2, 1) rfl) rfl (j := 2) rfl ?_
      refine cv_callV C (pc' := 48) rfl (k0 := 22) (ci := 5) (As := [.int (nI 1), .int (nI 0), .ref 10]) (rest := []) (idx := 28) (np := 3) (kX5_gets L q 1 0 σ hL hB hW hWB (by decide) (by decide)) (by decide) rfl rfl rfl (by decide +kernel) rfl wmX5_28 wi_yX5_gets ws_yX5_gets wn_X5 wc_yX5_gets (by decide) (by decide) (D 15 (45, .invokevirtual 28, 3) rfl) (Nat.le_of_ble_eq_true rfl) rfl (fun w45 u45 h45 => ?_)
      obtain ⟨e1, e2, e3⟩ := h45
      rw [e1]
      have est : cv_st L x q = (if q.2.1 = 1 ∧ q.2.2.1 = 0 ∧ (L 6 1).testBit q.1 = true then some (q.1, q.2.1, 0 + 1, q.2.2.2) else (none : Option cv_Q)) := by unfold cv_st; simp [b5, hx0]
      exact cv_iret C Rt (cv_b_nar _) (D 16 (48, .ireturn, 1) rfl) (by rw [est]; exact ⟨rfl, e2, e3⟩)
    · skip
      refine cv_top (w := nI 8) (congrArg nI hx0) ?_
      refine cv_tableIn C (D 7 (11, .tableswitch 46 6 8 #[25, 30, 38], 25) rfl) (tgt := 49) (by decide) (by decide) rfl (by decide) ?_
      refine cv_aload_n C (pc' := 50) rfl (D 17 (49, .aload_n 0, 1) rfl) rfl (j := 0) rfl ?_
      refine cv_iconst C (pc' := 51) rfl (D 18 (50, .iconst 2, 1) rfl) (v := nI 2) (by decide) ?_
      refine cv_iconst C (pc' := 52) rfl (D 19 (51, .iconst 1, 1) rfl) (v := nI 1) (by decide) ?_
      refine cv_aload_n C (pc' := 53) rfl (D 20 (52, .aload_n 2, 1) rfl) rfl (j := 2) rfl ?_
      refine cv_callV C (pc' := 56) rfl (k0 := 22) (ci := 5) (As := [.int (nI 2), .int (nI 1), .ref 10]) (rest := []) (idx := 28) (np := 3) (kX5_gets L q 2 1 σ hL hB hW hWB (by decide) (by decide)) (by decide) rfl rfl rfl (by decide +kernel) rfl wmX5_28 wi_yX5_gets ws_yX5_gets wn_X5 wc_yX5_gets (by decide) (by decide) (D 21 (53, .invokevirtual 28, 3) rfl) (Nat.le_of_ble_eq_true rfl) rfl (fun w53 u53 h53 => ?_)
      obtain ⟨e1, e2, e3⟩ := h53
      rw [e1]
      have est : cv_st L x q = (if q.2.1 = 2 ∧ q.2.2.1 = 1 ∧ (L 6 2).testBit q.1 = true then some (q.1, q.2.1, 1 + 1, q.2.2.2) else (none : Option cv_Q)) := by unfold cv_st; simp [b5, hx0]
      exact cv_iret C Rt (cv_b_nar _) (D 22 (56, .ireturn, 1) rfl) (by rw [est]; exact ⟨rfl, e2, e3⟩)
    · skip
      refine cv_tableOut C (D 7 (11, .tableswitch 46 6 8 #[25, 30, 38], 25) rfl) (tgt := 57) (Or.inl (by rw [nI_toInt (by omega)]; omega)) (by decide) ?_
      have hx6 : ¬ x = 6 ∧ ¬ x = 7 ∧ ¬ x = 8 := by omega
      obtain ⟨hx6, hx7, hx8⟩ := hx6
      refine cv_aload_n C (pc' := 58) rfl (D 23 (57, .aload_n 0, 1) rfl) rfl (j := 0) rfl ?_
      refine cv_iload_n C (pc' := 59) rfl (D 24 (58, .iload_n 1, 1) rfl) rfl (j := 1) rfl ?_
      refine cv_aload_n C (pc' := 60) rfl (D 25 (59, .aload_n 2, 1) rfl) rfl (j := 2) rfl ?_
      refine cv_callV C (pc' := 63) rfl (k0 := 22) (ci := 5) (As := [.int (nI x), .ref 10]) (rest := []) (idx := 32) (np := 2) (kX5_crosses L q x σ hL hB hW hWB (hx (by omega))) (by decide) rfl rfl rfl (by decide +kernel) rfl wmX5_32 wi_yX5_crosses ws_yX5_crosses wn_X5 wc_yX5_crosses (by decide) (by decide) (D 26 (60, .invokevirtual 32, 3) rfl) (Nat.le_of_ble_eq_true rfl) rfl (fun w60 u60 h60 => ?_)
      obtain ⟨e1, e2, e3⟩ := h60
      rw [e1]
      have est : cv_st L x q = (match cv_ar L x q.2.1 q.1 with | none => (none : Option cv_Q) | some c => some (c, (cv_oe L x q.2.1).getD 0, q.2.2.1, q.2.2.2)) := by unfold cv_st; simp [b5, hx6, hx7, hx8];  cases cv_ar L x q.2.1 q.1 <;> rfl
      exact cv_iret C Rt (cv_b_nar _) (D 27 (63, .ireturn, 1) rfl) (by rw [est]; exact ⟨rfl, e2, e3⟩)
  · skip
    refine cv_iconst C (pc' := 9) rfl (D 4 (8, .iconst 0, 1) rfl) (v := nI 0) (by decide) ?_
    exact cv_iret C Rt (by decide) (D 5 (9, .ireturn, 1) rfl) ⟨by unfold cv_st; rw [if_pos b5]; rfl, fun k _ => rfl, fun q2 h => by unfold cv_st at h; rw [if_pos b5] at h; cases h⟩

