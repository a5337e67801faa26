set_option maxHeartbeats 4000000 in
set_option maxRecDepth 100000 in
theorem kX6_bitIfReadingsHold (L : cv_L) (rc : Nat) (rd : Nat → Nat) (rn : Nat → Option Nat) (i : Nat) (σ : cv_St) (hL : cv_LC L σ) (hB : cv_LB L) (hD : cv_DC rc rd rn σ) (hDB : cv_DB rc rd rn) (hi : i < 32) : cv_Ct yX6_bitIfReadingsHold cX6_bitIfReadingsHold 2 (some .int) 5 0 0 26 cv_shC [.ref 0, .int (nI i)] σ (fun v u => v = some (.int (nI (if cv_hold L rc rd rn = true then 2 ^ i else 0))) ∧ ∀ k, k ≠ 20 → k ≠ 21 → k ≠ 22 → u k = σ k) := by
  refine cv_enter (own := RX6) (by decide) rfl (Nat.le_of_ble_eq_true rfl) ?_
  intro X a C Rt hRm
  have D := @cv_dec _ _ dkX6_bitIfReadingsHold
  show cv_At X _ _ σ 0 [(0, .ref 0), (1, .int (nI i))] []
  refine cv_aload_n C (pc' := 1) rfl (D 0 (0, .aload_n 0, 1) rfl) rfl (j := 0) rfl ?_
  refine cv_get C (pc' := 4) rfl (k0 := 0) (i := 1) (ci := 6) (by decide) rfl rfl (by decide) (o := some 10) rfl iw_X6 wfX6_21 (D 1 (1, .getfield 21, 3) rfl) rfl ?_
  refine cv_iconst C (pc' := 5) rfl (D 2 (4, .iconst (-1), 1) rfl) (v := -1) (by decide) ?_
  refine cv_callV C (pc' := 8) rfl (k0 := 10) (ci := 0) (As := [.int (-1)]) (rest := []) (idx := 131) (np := 1) (kX0_chart L (-1) σ hL hB) (by decide) rfl rfl rfl (by decide +kernel) rfl wmX6_131 wi_yX0_chart ws_yX0_chart wn_X0 wc_yX0_chart (by decide) (by decide) (D 3 (5, .invokevirtual 131, 3) rfl) (Nat.le_of_ble_eq_true rfl) rfl (fun w5 u5 h5 => ?_)
  obtain ⟨e5, hCOu5⟩ := h5
  rw [e5]
  have hKu5 : ∀ k, k ≠ 20 → k ≠ 21 → k ≠ 22 → u5 k = σ k := fun k h _ _ => hCOu5.1 k h
  have hLu5 := cv_LC_k hKu5 hL hB
  have hTu5 := cv_TC_of hCOu5
  have hDu5 := cv_DC_k hKu5 hD
  show cv_At X _ _ u5 8 _ []
  refine cv_aload_n C (pc' := 9) rfl (D 4 (8, .aload_n 0, 1) rfl) rfl (j := 0) rfl ?_
  refine cv_get C (pc' := 12) rfl (k0 := 0) (i := 3) (ci := 6) (by decide) rfl rfl (by decide) (o := some 23) rfl iw_X6 wfX6_35 (D 5 (9, .getfield 35, 3) rfl) rfl ?_
  refine cv_aload_n C (pc' := 13) rfl (D 6 (12, .aload_n 0, 1) rfl) rfl (j := 0) rfl ?_
  refine cv_get C (pc' := 16) rfl (k0 := 0) (i := 1) (ci := 6) (by decide) rfl rfl (by decide) (o := some 10) rfl iw_X6 wfX6_21 (D 7 (13, .getfield 21, 3) rfl) rfl ?_
  refine cv_callV C (pc' := 19) rfl (k0 := 23) (ci := 2) (As := [.ref 10]) (rest := []) (idx := 178) (np := 1) (kX2_holdIn L (cv_RT L (fun q => decide (nI q = -1)) 8) rc rd rn u5 hLu5 hB hTu5 hDu5 hDB) (by decide) rfl rfl rfl (by decide +kernel) rfl wmX6_178 wi_yX2_holdIn ws_yX2_holdIn wn_X2 wc_yX2_holdIn (by decide) (by decide) (D 8 (16, .invokevirtual 178, 3) rfl) (Nat.le_of_ble_eq_true rfl) rfl (fun w9 u9 h9 => ?_)
  rw [h9.1, h9.2]
  show cv_At X _ _ u5 19 _ [.int (cv_b (cv_hold L rc rd rn))]
  refine cv_if_eqB C (pc' := 22) rfl (tgt := 28) (D 9 (19, .ifCond .eq 9, 3) rfl) (by decide) (fun b19 => ?_) (fun b19 => ?_)
  · skip
    refine cv_iconst C (pc' := 29) rfl (D 14 (28, .iconst 0, 1) rfl) (v := nI 0) (by decide) ?_
    exact cv_iret C Rt rfl (D 15 (29, .ireturn, 1) rfl) ⟨congrArg (fun z => some (Value.int z)) (by rw [if_neg (by simp [b19])]), hKu5⟩
  · skip
    refine cv_iconst C (pc' := 23) rfl (D 10 (22, .iconst 1, 1) rfl) (v := nI 1) (by decide) ?_
    refine cv_iload_n C (pc' := 24) rfl (D 11 (23, .iload_n 1, 1) rfl) rfl (j := 1) rfl ?_
    refine cv_ishl1 C (pc' := 25) rfl (by omega) (D 12 (24, .ishl, 1) rfl) ?_
    refine cv_goto C (tgt := 29) (D 13 (25, .goto 4, 3) rfl) (by decide) ?_
    exact cv_iret C Rt rfl (D 15 (29, .ireturn, 1) rfl) ⟨congrArg (fun z => some (Value.int z)) (by rw [if_pos b19]), hKu5⟩

set_option maxHeartbeats 4000000 in
set_option maxRecDepth 100000 in
theorem pX6_snows (tr : Int32) (ft : Nat) (sl : Nat → Option (Nat × Nat)) (sc : Nat → Nat → Int32) (L : cv_L) (rc : Nat) (rd : Nat → Nat) (rn : Nat → Option Nat) (x : Int32) (σ : cv_St) (hR : cv_RC tr ft sl sc L rc rd rn σ) (hB : cv_LB L) (hDB : cv_DB rc rd rn) : cv_Ct yX6_snows cX6_snows 5 (some .int) 6 0 0 26 cv_shC [.ref 0, .int x] σ (fun v u => v = some (.int (cv_a_snows L rc rd rn x)) ∧ cv_RC tr ft sl sc L rc rd rn u) := by
  refine cv_enter (own := RX6) (by decide) rfl (Nat.le_of_ble_eq_true rfl) ?_
  intro X a C Rt hRm
  have D := @cv_dec _ _ dkX6_snows
  obtain ⟨hTr, hFt, hSh, hL, hSe, hD⟩ := id hR
  have hn6 := hB.1
  have hrc := hDB.1
  show cv_At X _ _ σ 0 [(0, .ref 0), (1, .int x)] []
  refine cv_iload_n C (pc' := 1) rfl (D 0 (0, .iload_n 1, 1) rfl) rfl (j := 1) rfl ?_
  refine cv_callS C (pc' := 4) rfl (As := [.int x]) (rest := []) (idx := 108) (np := 1) (kX6_isDay x σ) (by decide +kernel) rfl wmX6_108 wt_yX6_isDay wn_X6 wc_yX6_isDay (by decide) (by decide) (D 1 (1, .invokestatic 108, 3) rfl) (Nat.le_of_ble_eq_true rfl) rfl (fun w9 u9 h9 => ?_)
  rw [h9.1, h9.2]
  show cv_At X _ _ σ 4 _ [.int (cv_b (cv_in x 8))]
  refine cv_if_neB C (pc' := 7) rfl (tgt := 10) (D 2 (4, .ifCond .ne 6, 3) rfl) (by decide) (fun b4 => ?_) (fun b4 => ?_)
  · skip
    obtain ⟨j, hj, rfl⟩ := cv_in_of b4 (by omega)
    refine cv_aload_n C (pc' := 11) rfl (D 5 (10, .aload_n 0, 1) rfl) rfl (j := 0) rfl ?_
    refine cv_get C (pc' := 14) rfl (k0 := 0) (i := 1) (ci := 6) (by decide) rfl rfl (by decide) (o := some 10) rfl iw_X6 wfX6_21 (D 6 (11, .getfield 21, 3) rfl) rfl ?_
    refine cv_get C (pc' := 17) rfl (k0 := 10) (i := 5) (ci := 0) (by decide) rfl rfl (by decide) (o := none) rfl iw_X0 wfX6_115 (D 7 (14, .getfield 115, 3) rfl) (v := .int (cv_b (decide (0 < L 7 0)))) (congrArg Value.int hSe) ?_
    refine cv_if_neB C (pc' := 20) rfl (tgt := 23) (D 8 (17, .ifCond .ne 6, 3) rfl) (by decide) (fun b17 => ?_) (fun b17 => ?_)
    · skip
      refine cv_aload_n C (pc' := 24) rfl (D 11 (23, .aload_n 0, 1) rfl) rfl (j := 0) rfl ?_
      refine cv_get C (pc' := 27) rfl (k0 := 0) (i := 1) (ci := 6) (by decide) rfl rfl (by decide) (o := some 10) rfl iw_X6 wfX6_21 (D 12 (24, .getfield 21, 3) rfl) rfl ?_
      refine cv_get C (pc' := 30) rfl (k0 := 10) (i := 1) (ci := 0) (by decide) rfl rfl (by decide) (o := some 18) rfl iw_X0 wfX6_119 (D 13 (27, .getfield 119, 3) rfl) rfl ?_
      refine cv_iload_n C (pc' := 31) rfl (D 14 (30, .iload_n 1, 1) rfl) rfl (j := 1) rfl ?_
      refine cv_iald C (pc' := 32) rfl (k0 := 18) (j := j) (by decide) rfl rfl (by omega) (by decide) (D 15 (31, .iaload, 1) rfl) (v := nI (L 5 j)) (hL.2.1 _ (by omega)) ?_
      refine cv_istore_n C (pc' := 33) rfl (D 16 (32, .istore_n 2, 1) rfl) rfl (by decide) (lv' := [(2, .int (nI (L 5 j))), (0, .ref 0), (1, .int (nI j))]) rfl ?_
      refine cv_iconst C (pc' := 34) rfl (D 17 (33, .iconst 0, 1) rfl) (v := nI 0) (by decide) ?_
      refine cv_istore_n C (pc' := 35) rfl (D 18 (34, .istore_n 3, 1) rfl) rfl (by decide) (lv' := [(3, .int (nI 0)), (2, .int (nI (L 5 j))), (0, .ref 0), (1, .int (nI j))]) rfl ?_
      refine cv_iconst C (pc' := 36) rfl (D 19 (35, .iconst 0, 1) rfl) (v := nI 0) (by decide) ?_
      refine cv_istore C (pc' := 38) rfl (D 20 (36, .istore 4, 2) rfl) (by decide) (lv' := [(4, .int (nI 0)), (3, .int (nI 0)), (2, .int (nI (L 5 j))), (0, .ref 0), (1, .int (nI j))]) rfl ?_
      refine cv_pick [0, 1, 3, 4, 2] (lv' := [(4, .int (nI 0)), (3, .int (nI (cv_sb (fun v => cv_hold (cv_lu L 5 j v) rc rd rn) 0))), (0, .ref 0), (1, .int (nI j)), (2, .int (nI (L 5 j)))]) rfl ?_
      have LP38 : ∀ (r : Nat) (v : Nat) (τ : cv_St), (v + r = 10) → (cv_iv 18 j σ τ) → cv_At X (26, cv_shC, 0, 0, a) 5 τ 38 [(4, .int (nI v)), (3, .int (nI (cv_sb (fun v => cv_hold (cv_lu L 5 j v) rc rd rn) v))), (0, .ref 0), (1, .int (nI j)), (2, .int (nI (L 5 j)))] [] := by
        intro r
        induction r with
        | zero =>
          intro v τ hr hIτ
          obtain rfl : v = 10 := by omega
          refine cv_iload C (pc' := 40) rfl (D 21 (38, .iload 4, 2) rfl) (j := 0) rfl ?_
          refine cv_bipush C (pc' := 42) rfl (D 22 (40, .bipush 10, 2) rfl) (v := nI 10) (by decide) ?_
          refine cv_icmp_ge C (pc' := 45) rfl (tgt := 71) (D 23 (42, .if_icmp .ge 29, 3) rfl) (by decide) (fun _ => ?_) (fun h => absurd h (by decide))
          refine cv_aload_n C (pc' := 72) rfl (D 38 (71, .aload_n 0, 1) rfl) rfl (j := 2) rfl ?_
          refine cv_get C (pc' := 75) rfl (k0 := 0) (i := 1) (ci := 6) (by decide) rfl rfl (by decide) (o := some 10) rfl iw_X6 wfX6_21 (D 39 (72, .getfield 21, 3) rfl) rfl ?_
          refine cv_get C (pc' := 78) rfl (k0 := 10) (i := 1) (ci := 0) (by decide) rfl rfl (by decide) (o := some 18) rfl iw_X0 wfX6_119 (D 40 (75, .getfield 119, 3) rfl) rfl ?_
          refine cv_iload_n C (pc' := 79) rfl (D 41 (78, .iload_n 1, 1) rfl) rfl (j := 3) rfl ?_
          refine cv_iload_n C (pc' := 80) rfl (D 42 (79, .iload_n 2, 1) rfl) rfl (j := 4) rfl ?_
          refine cv_iast C (pc' := 81) rfl (k0 := 18) (j := j) (by decide) rfl rfl (by omega) (by decide) (D 43 (80, .iastore, 1) rfl) ?_
          refine cv_iload_n C (pc' := 82) rfl (D 44 (81, .iload_n 3, 1) rfl) rfl (j := 1) rfl ?_
          exact cv_iret C Rt rfl (D 45 (82, .ireturn, 1) rfl) ⟨congrArg (fun z => some (Value.int z)) (by unfold cv_a_snows cv_day; rw [if_pos b4, if_pos (by simpa using b17), cv_nt, nI_clamp (by omega)]), cv_RC_k (cv_iv_end hIτ (hL.2.1 j (by omega))) hB hR⟩
        | succ r ih38 =>
          intro v τ hr hIτ
          refine cv_iload C (pc' := 40) rfl (D 21 (38, .iload 4, 2) rfl) (j := 0) rfl ?_
          refine cv_bipush C (pc' := 42) rfl (D 22 (40, .bipush 10, 2) rfl) (v := nI 10) (by decide) ?_
          refine cv_icmp_geN C (pc' := 45) rfl (by omega) (by omega) (tgt := 71) (D 23 (42, .if_icmp .ge 29, 3) rfl) (by decide) (fun b42 => ?_) (fun b42 => ?_)
          · skip
            omega
          · skip
            refine cv_aload_n C (pc' := 46) rfl (D 24 (45, .aload_n 0, 1) rfl) rfl (j := 2) rfl ?_
            refine cv_get C (pc' := 49) rfl (k0 := 0) (i := 1) (ci := 6) (by decide) rfl rfl (by decide) (o := some 10) rfl iw_X6 wfX6_21 (D 25 (46, .getfield 21, 3) rfl) rfl ?_
            refine cv_get C (pc' := 52) rfl (k0 := 10) (i := 1) (ci := 0) (by decide) rfl rfl (by decide) (o := some 18) rfl iw_X0 wfX6_119 (D 26 (49, .getfield 119, 3) rfl) rfl ?_
            refine cv_iload_n C (pc' := 53) rfl (D 27 (52, .iload_n 1, 1) rfl) rfl (j := 3) rfl ?_
            refine cv_iload C (pc' := 55) rfl (D 28 (53, .iload 4, 2) rfl) (j := 0) rfl ?_
            refine cv_iast C (pc' := 56) rfl (k0 := 18) (j := j) (by decide) rfl rfl (by omega) (by decide) (D 29 (55, .iastore, 1) rfl) ?_
            refine cv_iload_n C (pc' := 57) rfl (D 30 (56, .iload_n 3, 1) rfl) rfl (j := 1) rfl ?_
            refine cv_aload_n C (pc' := 58) rfl (D 31 (57, .aload_n 0, 1) rfl) rfl (j := 2) rfl ?_
            refine cv_iload C (pc' := 60) rfl (D 32 (58, .iload 4, 2) rfl) (j := 0) rfl ?_
            refine cv_callV C (pc' := 63) rfl (k0 := 0) (ci := 6) (As := [.int (nI v)]) (rest := [.int (nI (cv_sb (fun v => cv_hold (cv_lu L 5 j v) rc rd rn) v))]) (idx := 175) (np := 1) (kX6_bitIfReadingsHold (cv_lu L 5 j v) rc rd rn v (cv_u τ 18 j (nI v)) (cv_LC_k (cv_iv_u hIτ (nI v)) (cv_LC_snow hL hB j v) (cv_LB_snow hB (by omega))) (cv_LB_snow hB (by omega)) (cv_iv_D (by omega) hIτ hD (nI v)) hDB (by omega)) (by decide) rfl rfl rfl (by decide +kernel) rfl wmX6_175 wi_yX6_bitIfReadingsHold ws_yX6_bitIfReadingsHold wn_X6 wc_yX6_bitIfReadingsHold (by decide) (by decide) (D 33 (60, .invokevirtual 175, 3) rfl) (Nat.le_of_ble_eq_true rfl) rfl (fun w60 u60 h60 => ?_)
            obtain ⟨e60, hKu60⟩ := h60
            rw [e60]
            have hIu60 : cv_iv 18 j σ u60 := cv_iv_s (by omega) hIτ hKu60
            show cv_At X _ _ u60 63 _ [.int (nI (if cv_hold (cv_lu L 5 j v) rc rd rn = true then 2 ^ v else 0)), .int (nI (cv_sb (fun v => cv_hold (cv_lu L 5 j v) rc rd rn) v))]
            refine cv_iorN C (pc' := 64) rfl (D 34 (63, .ior, 1) rfl) ?_
            refine cv_istore_n C (pc' := 65) rfl (D 35 (64, .istore_n 3, 1) rfl) rfl (by decide) (lv' := [(3, .int (nI ((cv_sb (fun v => cv_hold (cv_lu L 5 j v) rc rd rn) v) ||| (if cv_hold (cv_lu L 5 j v) rc rd rn = true then 2 ^ v else 0)))), (4, .int (nI v)), (0, .ref 0), (1, .int (nI j)), (2, .int (nI (L 5 j)))]) rfl ?_
            refine cv_iincN C (pc' := 68) rfl (D 36 (65, .iinc 4 1, 3) rfl) (j := 1) rfl (by decide) (lv' := [(4, .int (nI (v + 1))), (3, .int (nI ((cv_sb (fun v => cv_hold (cv_lu L 5 j v) rc rd rn) v) ||| (if cv_hold (cv_lu L 5 j v) rc rd rn = true then 2 ^ v else 0)))), (0, .ref 0), (1, .int (nI j)), (2, .int (nI (L 5 j)))]) rfl ?_
            refine cv_goto C (tgt := 38) (D 37 (68, .goto (-30), 3) rfl) (by decide) ?_
            have hw9 : (cv_sb (fun v => cv_hold (cv_lu L 5 j v) rc rd rn) v) ||| (if cv_hold (cv_lu L 5 j v) rc rd rn = true then 2 ^ v else 0) = cv_sb (fun v => cv_hold (cv_lu L 5 j v) rc rd rn) (v + 1) := by simp only [cv_sb]; split <;> simp
            rw [hw9]
            exact ih38 (v + 1) u60 (by omega) hIu60
      exact LP38 10 0 σ (by decide) (cv_iv_0 _ _ σ)
    · skip
      refine cv_bipush C (pc' := 22) rfl (D 9 (20, .bipush (-3), 2) rfl) (v := -3) (by decide) ?_
      exact cv_iret C Rt rfl (D 10 (22, .ireturn, 1) rfl) ⟨congrArg (fun z => some (Value.int z)) (by unfold cv_a_snows cv_day; rw [if_pos b4, if_neg (by simpa using b17)]), hR⟩
  · skip
    refine cv_bipush C (pc' := 9) rfl (D 3 (7, .bipush (-2), 2) rfl) (v := -2) (by decide) ?_
    exact cv_iret C Rt rfl (D 4 (9, .ireturn, 1) rfl) ⟨congrArg (fun z => some (Value.int z)) (by unfold cv_a_snows cv_day; rw [if_neg (by simp [b4])]), hR⟩

set_option maxHeartbeats 4000000 in
set_option maxRecDepth 100000 in
theorem pX6_heights (tr : Int32) (ft : Nat) (sl : Nat → Option (Nat × Nat)) (sc : Nat → Nat → Int32) (L : cv_L) (rc : Nat) (rd : Nat → Nat) (rn : Nat → Option Nat) (x : Int32) (σ : cv_St) (hR : cv_RC tr ft sl sc L rc rd rn σ) (hB : cv_LB L) (hDB : cv_DB rc rd rn) : cv_Ct yX6_heights cX6_heights 6 (some .int) 6 0 0 26 cv_shC [.ref 0, .int x] σ (fun v u => v = some (.int (cv_a_heights L rc rd rn x)) ∧ cv_RC tr ft sl sc L rc rd rn u) := by
  refine cv_enter (own := RX6) (by decide) rfl (Nat.le_of_ble_eq_true rfl) ?_
  intro X a C Rt hRm
  have D := @cv_dec _ _ dkX6_heights
  obtain ⟨hTr, hFt, hSh, hL, hSe, hD⟩ := id hR
  have hn6 := hB.1
  have hrc := hDB.1
  show cv_At X _ _ σ 0 [(0, .ref 0), (1, .int x)] []
  refine cv_aload_n C (pc' := 1) rfl (D 0 (0, .aload_n 0, 1) rfl) rfl (j := 0) rfl ?_
  refine cv_iload_n C (pc' := 2) rfl (D 1 (1, .iload_n 1, 1) rfl) rfl (j := 1) rfl ?_
  refine cv_callV C (pc' := 5) rfl (k0 := 0) (ci := 6) (As := [.int x]) (rest := []) (idx := 81) (np := 1) (kX6_isPass x L σ hL) (by decide) rfl rfl rfl (by decide +kernel) rfl wmX6_81 wi_yX6_isPass ws_yX6_isPass wn_X6 wc_yX6_isPass (by decide) (by decide) (D 2 (2, .invokevirtual 81, 3) rfl) (Nat.le_of_ble_eq_true rfl) rfl (fun w9 u9 h9 => ?_)
  rw [h9.1, h9.2]
  show cv_At X _ _ σ 5 _ [.int (cv_b (cv_in x (L 7 0)))]
  refine cv_if_neB C (pc' := 8) rfl (tgt := 10) (D 3 (5, .ifCond .ne 5, 3) rfl) (by decide) (fun b5 => ?_) (fun b5 => ?_)
  · skip
    obtain ⟨p, hp, rfl⟩ := cv_in_of b5 (by omega)
    have hp6 : p < 6 := by omega
    have hp := hp
    refine cv_aload_n C (pc' := 11) rfl (D 6 (10, .aload_n 0, 1) rfl) rfl (j := 0) rfl ?_
    refine cv_get C (pc' := 14) rfl (k0 := 0) (i := 1) (ci := 6) (by decide) rfl rfl (by decide) (o := some 10) rfl iw_X6 wfX6_21 (D 7 (11, .getfield 21, 3) rfl) rfl ?_
    refine cv_get C (pc' := 17) rfl (k0 := 10) (i := 0) (ci := 0) (by decide) rfl rfl (by decide) (o := some 11) rfl iw_X0 wfX6_84 (D 8 (14, .getfield 84, 3) rfl) rfl ?_
    refine cv_iload_n C (pc' := 18) rfl (D 9 (17, .iload_n 1, 1) rfl) rfl (j := 1) rfl ?_
    refine cv_aald C (pc' := 19) rfl (k0 := 11) (j := p) (r := 12 + p) (by decide) rfl rfl rfl (cv_ix_p hp6) (by decide) (D 10 (18, .aaload, 1) rfl) ?_
    refine cv_astore_n C (pc' := 20) rfl (D 11 (19, .astore_n 2, 1) rfl) rfl (by decide) (lv' := [(2, .ref (12 + p)), (0, .ref 0), (1, .int (nI p))]) rfl ?_
    refine cv_aload_n C (pc' := 21) rfl (D 12 (20, .aload_n 2, 1) rfl) rfl (j := 0) rfl ?_
    refine cv_get C (pc' := 24) rfl (k0 := 12 + p) (i := 4) (ci := 1) (cv_lt_p hp6) (cv_shC_p hp6) rfl (by decide) (o := none) rfl iw_X1 wfX6_102 (D 13 (21, .getfield 102, 3) rfl) (v := .int (nI (L 4 p))) (congrArg Value.int (hL.2.2.2 p hp 4 (by decide))) ?_
    refine cv_istore_n C (pc' := 25) rfl (D 14 (24, .istore_n 3, 1) rfl) rfl (by decide) (lv' := [(3, .int (nI (L 4 p))), (2, .ref (12 + p)), (0, .ref 0), (1, .int (nI p))]) rfl ?_
    refine cv_iconst C (pc' := 26) rfl (D 15 (25, .iconst 0, 1) rfl) (v := nI 0) (by decide) ?_
    refine cv_istore C (pc' := 28) rfl (D 16 (26, .istore 4, 2) rfl) (by decide) (lv' := [(4, .int (nI 0)), (3, .int (nI (L 4 p))), (2, .ref (12 + p)), (0, .ref 0), (1, .int (nI p))]) rfl ?_
    refine cv_iconst C (pc' := 29) rfl (D 17 (28, .iconst 0, 1) rfl) (v := nI 0) (by decide) ?_
    refine cv_istore C (pc' := 31) rfl (D 18 (29, .istore 5, 2) rfl) (by decide) (lv' := [(5, .int (nI 0)), (4, .int (nI 0)), (3, .int (nI (L 4 p))), (2, .ref (12 + p)), (0, .ref 0), (1, .int (nI p))]) rfl ?_
    refine cv_pick [0, 1, 4, 5, 3, 2] (lv' := [(5, .int (nI 0)), (4, .int (nI (cv_sb (fun v => cv_hold (cv_lu L 4 p v) rc rd rn) 0))), (0, .ref 0), (1, .int (nI p)), (2, .ref (12 + p)), (3, .int (nI (L 4 p)))]) rfl ?_
    have LP31 : ∀ (r : Nat) (v : Nat) (τ : cv_St), (v + r = 10) → (cv_iv (12 + p) 4 σ τ) → cv_At X (26, cv_shC, 0, 0, a) 6 τ 31 [(5, .int (nI v)), (4, .int (nI (cv_sb (fun v => cv_hold (cv_lu L 4 p v) rc rd rn) v))), (0, .ref 0), (1, .int (nI p)), (2, .ref (12 + p)), (3, .int (nI (L 4 p)))] [] := by
      intro r
      induction r with
      | zero =>
        intro v τ hr hIτ
        obtain rfl : v = 10 := by omega
        refine cv_iload C (pc' := 33) rfl (D 19 (31, .iload 5, 2) rfl) (j := 0) rfl ?_
        refine cv_bipush C (pc' := 35) rfl (D 20 (33, .bipush 10, 2) rfl) (v := nI 10) (by decide) ?_
        refine cv_icmp_ge C (pc' := 38) rfl (tgt := 61) (D 21 (35, .if_icmp .ge 26, 3) rfl) (by decide) (fun _ => ?_) (fun h => absurd h (by decide))
        refine cv_aload_n C (pc' := 62) rfl (D 33 (61, .aload_n 2, 1) rfl) rfl (j := 4) rfl ?_
        refine cv_iload_n C (pc' := 63) rfl (D 34 (62, .iload_n 3, 1) rfl) rfl (j := 5) rfl ?_
        refine cv_put C (pc' := 66) rfl (k0 := 12 + p) (i := 4) (ci := 1) (cv_lt_p hp6) (cv_shC_p hp6) rfl (by decide) rfl iw_X1 tyX1 tyX1_ok nmX1 wfX6_102 rfl rfl rfl (D 35 (63, .putfield 102, 3) rfl) ?_
        refine cv_iload C (pc' := 68) rfl (D 36 (66, .iload 4, 2) rfl) (j := 1) rfl ?_
        exact cv_iret C Rt rfl (D 37 (68, .ireturn, 1) rfl) ⟨congrArg (fun z => some (Value.int z)) (by unfold cv_a_heights; rw [if_pos b5, cv_nt, nI_clamp (by omega)]), cv_RC_k (cv_iv_end hIτ (hL.2.2.2 p hp 4 (by decide))) hB hR⟩
      | succ r ih31 =>
        intro v τ hr hIτ
        refine cv_iload C (pc' := 33) rfl (D 19 (31, .iload 5, 2) rfl) (j := 0) rfl ?_
        refine cv_bipush C (pc' := 35) rfl (D 20 (33, .bipush 10, 2) rfl) (v := nI 10) (by decide) ?_
        refine cv_icmp_geN C (pc' := 38) rfl (by omega) (by omega) (tgt := 61) (D 21 (35, .if_icmp .ge 26, 3) rfl) (by decide) (fun b35 => ?_) (fun b35 => ?_)
        · skip
          omega
        · skip
          refine cv_aload_n C (pc' := 39) rfl (D 22 (38, .aload_n 2, 1) rfl) rfl (j := 4) rfl ?_
          refine cv_iload C (pc' := 41) rfl (D 23 (39, .iload 5, 2) rfl) (j := 0) rfl ?_
          refine cv_put C (pc' := 44) rfl (k0 := 12 + p) (i := 4) (ci := 1) (cv_lt_p hp6) (cv_shC_p hp6) rfl (by decide) rfl iw_X1 tyX1 tyX1_ok nmX1 wfX6_102 rfl rfl rfl (D 24 (41, .putfield 102, 3) rfl) ?_
          refine cv_iload C (pc' := 46) rfl (D 25 (44, .iload 4, 2) rfl) (j := 1) rfl ?_
          refine cv_aload_n C (pc' := 47) rfl (D 26 (46, .aload_n 0, 1) rfl) rfl (j := 2) rfl ?_
          refine cv_iload C (pc' := 49) rfl (D 27 (47, .iload 5, 2) rfl) (j := 0) rfl ?_
          refine cv_callV C (pc' := 52) rfl (k0 := 0) (ci := 6) (As := [.int (nI v)]) (rest := [.int (nI (cv_sb (fun v => cv_hold (cv_lu L 4 p v) rc rd rn) v))]) (idx := 175) (np := 1) (kX6_bitIfReadingsHold (cv_lu L 4 p v) rc rd rn v (cv_u τ (12 + p) 4 (nI v)) (cv_LC_k (cv_iv_u hIτ (nI v)) (cv_LC_pass hL hB p 4 v (by decide) hp) (cv_LB_high hB (by omega))) (cv_LB_high hB (by omega)) (cv_iv_D (by omega) hIτ hD (nI v)) hDB (by omega)) (by decide) rfl rfl rfl (by decide +kernel) rfl wmX6_175 wi_yX6_bitIfReadingsHold ws_yX6_bitIfReadingsHold wn_X6 wc_yX6_bitIfReadingsHold (by decide) (by decide) (D 28 (49, .invokevirtual 175, 3) rfl) (Nat.le_of_ble_eq_true rfl) rfl (fun w49 u49 h49 => ?_)
          obtain ⟨e49, hKu49⟩ := h49
          rw [e49]
          have hIu49 : cv_iv (12 + p) 4 σ u49 := cv_iv_s (by omega) hIτ hKu49
          show cv_At X _ _ u49 52 _ [.int (nI (if cv_hold (cv_lu L 4 p v) rc rd rn = true then 2 ^ v else 0)), .int (nI (cv_sb (fun v => cv_hold (cv_lu L 4 p v) rc rd rn) v))]
          refine cv_iorN C (pc' := 53) rfl (D 29 (52, .ior, 1) rfl) ?_
          refine cv_istore C (pc' := 55) rfl (D 30 (53, .istore 4, 2) rfl) (by decide) (lv' := [(4, .int (nI ((cv_sb (fun v => cv_hold (cv_lu L 4 p v) rc rd rn) v) ||| (if cv_hold (cv_lu L 4 p v) rc rd rn = true then 2 ^ v else 0)))), (5, .int (nI v)), (0, .ref 0), (1, .int (nI p)), (2, .ref (12 + p)), (3, .int (nI (L 4 p)))]) rfl ?_
          refine cv_iincN C (pc' := 58) rfl (D 31 (55, .iinc 5 1, 3) rfl) (j := 1) rfl (by decide) (lv' := [(5, .int (nI (v + 1))), (4, .int (nI ((cv_sb (fun v => cv_hold (cv_lu L 4 p v) rc rd rn) v) ||| (if cv_hold (cv_lu L 4 p v) rc rd rn = true then 2 ^ v else 0)))), (0, .ref 0), (1, .int (nI p)), (2, .ref (12 + p)), (3, .int (nI (L 4 p)))]) rfl ?_
          refine cv_goto C (tgt := 31) (D 32 (58, .goto (-27), 3) rfl) (by decide) ?_
          have hw9 : (cv_sb (fun v => cv_hold (cv_lu L 4 p v) rc rd rn) v) ||| (if cv_hold (cv_lu L 4 p v) rc rd rn = true then 2 ^ v else 0) = cv_sb (fun v => cv_hold (cv_lu L 4 p v) rc rd rn) (v + 1) := by simp only [cv_sb]; split <;> simp
          rw [hw9]
          exact ih31 (v + 1) u49 (by omega) hIu49
    exact LP31 10 0 σ (by decide) (cv_iv_0 _ _ σ)
  · skip
    refine cv_iconst C (pc' := 9) rfl (D 4 (8, .iconst (-1), 1) rfl) (v := -1) (by decide) ?_
    exact cv_iret C Rt rfl (D 5 (9, .ireturn, 1) rfl) ⟨congrArg (fun z => some (Value.int z)) (by unfold cv_a_heights; rw [if_neg (by simp [b5])]), hR⟩

set_option maxHeartbeats 4000000 in
set_option maxRecDepth 100000 in
theorem pX6_kinds (tr : Int32) (ft : Nat) (sl : Nat → Option (Nat × Nat)) (sc : Nat → Nat → Int32) (L : cv_L) (rc : Nat) (rd : Nat → Nat) (rn : Nat → Option Nat) (x : Int32) (σ : cv_St) (hR : cv_RC tr ft sl sc L rc rd rn σ) (hB : cv_LB L) (hDB : cv_DB rc rd rn) : cv_Ct yX6_kinds cX6_kinds 6 (some .int) 6 0 0 26 cv_shC [.ref 0, .int x] σ (fun v u => v = some (.int (cv_a_kinds L rc rd rn x)) ∧ cv_RC tr ft sl sc L rc rd rn u) := by
  refine cv_enter (own := RX6) (by decide) rfl (Nat.le_of_ble_eq_true rfl) ?_
  intro X a C Rt hRm
  have D := @cv_dec _ _ dkX6_kinds
  obtain ⟨hTr, hFt, hSh, hL, hSe, hD⟩ := id hR
  have hn6 := hB.1
  have hrc := hDB.1
  show cv_At X _ _ σ 0 [(0, .ref 0), (1, .int x)] []
  refine cv_aload_n C (pc' := 1) rfl (D 0 (0, .aload_n 0, 1) rfl) rfl (j := 0) rfl ?_
  refine cv_iload_n C (pc' := 2) rfl (D 1 (1, .iload_n 1, 1) rfl) rfl (j := 1) rfl ?_
  refine cv_callV C (pc' := 5) rfl (k0 := 0) (ci := 6) (As := [.int x]) (rest := []) (idx := 81) (np := 1) (kX6_isPass x L σ hL) (by decide) rfl rfl rfl (by decide +kernel) rfl wmX6_81 wi_yX6_isPass ws_yX6_isPass wn_X6 wc_yX6_isPass (by decide) (by decide) (D 2 (2, .invokevirtual 81, 3) rfl) (Nat.le_of_ble_eq_true rfl) rfl (fun w9 u9 h9 => ?_)
  rw [h9.1, h9.2]
  show cv_At X _ _ σ 5 _ [.int (cv_b (cv_in x (L 7 0)))]
  refine cv_if_neB C (pc' := 8) rfl (tgt := 10) (D 3 (5, .ifCond .ne 5, 3) rfl) (by decide) (fun b5 => ?_) (fun b5 => ?_)
  · skip
    obtain ⟨p, hp, rfl⟩ := cv_in_of b5 (by omega)
    have hp6 : p < 6 := by omega
    have hp := hp
    refine cv_aload_n C (pc' := 11) rfl (D 6 (10, .aload_n 0, 1) rfl) rfl (j := 0) rfl ?_
    refine cv_get C (pc' := 14) rfl (k0 := 0) (i := 1) (ci := 6) (by decide) rfl rfl (by decide) (o := some 10) rfl iw_X6 wfX6_21 (D 7 (11, .getfield 21, 3) rfl) rfl ?_
    refine cv_get C (pc' := 17) rfl (k0 := 10) (i := 0) (ci := 0) (by decide) rfl rfl (by decide) (o := some 11) rfl iw_X0 wfX6_84 (D 8 (14, .getfield 84, 3) rfl) rfl ?_
    refine cv_iload_n C (pc' := 18) rfl (D 9 (17, .iload_n 1, 1) rfl) rfl (j := 1) rfl ?_
    refine cv_aald C (pc' := 19) rfl (k0 := 11) (j := p) (r := 12 + p) (by decide) rfl rfl rfl (cv_ix_p hp6) (by decide) (D 10 (18, .aaload, 1) rfl) ?_
    refine cv_astore_n C (pc' := 20) rfl (D 11 (19, .astore_n 2, 1) rfl) rfl (by decide) (lv' := [(2, .ref (12 + p)), (0, .ref 0), (1, .int (nI p))]) rfl ?_
    refine cv_aload_n C (pc' := 21) rfl (D 12 (20, .aload_n 2, 1) rfl) rfl (j := 0) rfl ?_
    refine cv_get C (pc' := 24) rfl (k0 := 12 + p) (i := 0) (ci := 1) (cv_lt_p hp6) (cv_shC_p hp6) rfl (by decide) (o := none) rfl iw_X1 wfX6_88 (D 13 (21, .getfield 88, 3) rfl) (v := .int (nI (L 0 p))) (congrArg Value.int (hL.2.2.2 p hp 0 (by decide))) ?_
    refine cv_istore_n C (pc' := 25) rfl (D 14 (24, .istore_n 3, 1) rfl) rfl (by decide) (lv' := [(3, .int (nI (L 0 p))), (2, .ref (12 + p)), (0, .ref 0), (1, .int (nI p))]) rfl ?_
    refine cv_iconst C (pc' := 26) rfl (D 15 (25, .iconst 0, 1) rfl) (v := nI 0) (by decide) ?_
    refine cv_istore C (pc' := 28) rfl (D 16 (26, .istore 4, 2) rfl) (by decide) (lv' := [(4, .int (nI 0)), (3, .int (nI (L 0 p))), (2, .ref (12 + p)), (0, .ref 0), (1, .int (nI p))]) rfl ?_
    refine cv_iconst C (pc' := 29) rfl (D 17 (28, .iconst 0, 1) rfl) (v := nI 0) (by decide) ?_
    refine cv_istore C (pc' := 31) rfl (D 18 (29, .istore 5, 2) rfl) (by decide) (lv' := [(5, .int (nI 0)), (4, .int (nI 0)), (3, .int (nI (L 0 p))), (2, .ref (12 + p)), (0, .ref 0), (1, .int (nI p))]) rfl ?_
    refine cv_pick [0, 1, 4, 5, 3, 2] (lv' := [(5, .int (nI 0)), (4, .int (nI (cv_sb (fun v => cv_hold (cv_lu L 0 p v) rc rd rn) 0))), (0, .ref 0), (1, .int (nI p)), (2, .ref (12 + p)), (3, .int (nI (L 0 p)))]) rfl ?_
    have LP31 : ∀ (r : Nat) (v : Nat) (τ : cv_St), (v + r = 3) → (cv_iv (12 + p) 0 σ τ) → cv_At X (26, cv_shC, 0, 0, a) 6 τ 31 [(5, .int (nI v)), (4, .int (nI (cv_sb (fun v => cv_hold (cv_lu L 0 p v) rc rd rn) v))), (0, .ref 0), (1, .int (nI p)), (2, .ref (12 + p)), (3, .int (nI (L 0 p)))] [] := by
      intro r
      induction r with
      | zero =>
        intro v τ hr hIτ
        obtain rfl : v = 3 := by omega
        refine cv_iload C (pc' := 33) rfl (D 19 (31, .iload 5, 2) rfl) (j := 0) rfl ?_
        refine cv_iconst C (pc' := 34) rfl (D 20 (33, .iconst 3, 1) rfl) (v := nI 3) (by decide) ?_
        refine cv_icmp_ge C (pc' := 37) rfl (tgt := 60) (D 21 (34, .if_icmp .ge 26, 3) rfl) (by decide) (fun _ => ?_) (fun h => absurd h (by decide))
        refine cv_aload_n C (pc' := 61) rfl (D 33 (60, .aload_n 2, 1) rfl) rfl (j := 4) rfl ?_
        refine cv_iload_n C (pc' := 62) rfl (D 34 (61, .iload_n 3, 1) rfl) rfl (j := 5) rfl ?_
        refine cv_put C (pc' := 65) rfl (k0 := 12 + p) (i := 0) (ci := 1) (cv_lt_p hp6) (cv_shC_p hp6) rfl (by decide) rfl iw_X1 tyX1 tyX1_ok nmX1 wfX6_88 rfl rfl rfl (D 35 (62, .putfield 88, 3) rfl) ?_
        refine cv_iload C (pc' := 67) rfl (D 36 (65, .iload 4, 2) rfl) (j := 1) rfl ?_
        exact cv_iret C Rt rfl (D 37 (67, .ireturn, 1) rfl) ⟨congrArg (fun z => some (Value.int z)) (by unfold cv_a_kinds; rw [if_pos b5, cv_nt, nI_clamp (by omega)]), cv_RC_k (cv_iv_end hIτ (hL.2.2.2 p hp 0 (by decide))) hB hR⟩
      | succ r ih31 =>
        intro v τ hr hIτ
        refine cv_iload C (pc' := 33) rfl (D 19 (31, .iload 5, 2) rfl) (j := 0) rfl ?_
        refine cv_iconst C (pc' := 34) rfl (D 20 (33, .iconst 3, 1) rfl) (v := nI 3) (by decide) ?_
        refine cv_icmp_geN C (pc' := 37) rfl (by omega) (by omega) (tgt := 60) (D 21 (34, .if_icmp .ge 26, 3) rfl) (by decide) (fun b34 => ?_) (fun b34 => ?_)
        · skip
          omega
        · skip
          refine cv_aload_n C (pc' := 38) rfl (D 22 (37, .aload_n 2, 1) rfl) rfl (j := 4) rfl ?_
          refine cv_iload C (pc' := 40) rfl (D 23 (38, .iload 5, 2) rfl) (j := 0) rfl ?_
          refine cv_put C (pc' := 43) rfl (k0 := 12 + p) (i := 0) (ci := 1) (cv_lt_p hp6) (cv_shC_p hp6) rfl (by decide) rfl iw_X1 tyX1 tyX1_ok nmX1 wfX6_88 rfl rfl rfl (D 24 (40, .putfield 88, 3) rfl) ?_
          refine cv_iload C (pc' := 45) rfl (D 25 (43, .iload 4, 2) rfl) (j := 1) rfl ?_
          refine cv_aload_n C (pc' := 46) rfl (D 26 (45, .aload_n 0, 1) rfl) rfl (j := 2) rfl ?_
          refine cv_iload C (pc' := 48) rfl (D 27 (46, .iload 5, 2) rfl) (j := 0) rfl ?_
          refine cv_callV C (pc' := 51) rfl (k0 := 0) (ci := 6) (As := [.int (nI v)]) (rest := [.int (nI (cv_sb (fun v => cv_hold (cv_lu L 0 p v) rc rd rn) v))]) (idx := 175) (np := 1) (kX6_bitIfReadingsHold (cv_lu L 0 p v) rc rd rn v (cv_u τ (12 + p) 0 (nI v)) (cv_LC_k (cv_iv_u hIτ (nI v)) (cv_LC_pass hL hB p 0 v (by decide) hp) (cv_LB_kind hB (by omega))) (cv_LB_kind hB (by omega)) (cv_iv_D (by omega) hIτ hD (nI v)) hDB (by omega)) (by decide) rfl rfl rfl (by decide +kernel) rfl wmX6_175 wi_yX6_bitIfReadingsHold ws_yX6_bitIfReadingsHold wn_X6 wc_yX6_bitIfReadingsHold (by decide) (by decide) (D 28 (48, .invokevirtual 175, 3) rfl) (Nat.le_of_ble_eq_true rfl) rfl (fun w48 u48 h48 => ?_)
          obtain ⟨e48, hKu48⟩ := h48
          rw [e48]
          have hIu48 : cv_iv (12 + p) 0 σ u48 := cv_iv_s (by omega) hIτ hKu48
          show cv_At X _ _ u48 51 _ [.int (nI (if cv_hold (cv_lu L 0 p v) rc rd rn = true then 2 ^ v else 0)), .int (nI (cv_sb (fun v => cv_hold (cv_lu L 0 p v) rc rd rn) v))]
          refine cv_iorN C (pc' := 52) rfl (D 29 (51, .ior, 1) rfl) ?_
          refine cv_istore C (pc' := 54) rfl (D 30 (52, .istore 4, 2) rfl) (by decide) (lv' := [(4, .int (nI ((cv_sb (fun v => cv_hold (cv_lu L 0 p v) rc rd rn) v) ||| (if cv_hold (cv_lu L 0 p v) rc rd rn = true then 2 ^ v else 0)))), (5, .int (nI v)), (0, .ref 0), (1, .int (nI p)), (2, .ref (12 + p)), (3, .int (nI (L 0 p)))]) rfl ?_
          refine cv_iincN C (pc' := 57) rfl (D 31 (54, .iinc 5 1, 3) rfl) (j := 1) rfl (by decide) (lv' := [(5, .int (nI (v + 1))), (4, .int (nI ((cv_sb (fun v => cv_hold (cv_lu L 0 p v) rc rd rn) v) ||| (if cv_hold (cv_lu L 0 p v) rc rd rn = true then 2 ^ v else 0)))), (0, .ref 0), (1, .int (nI p)), (2, .ref (12 + p)), (3, .int (nI (L 0 p)))]) rfl ?_
          refine cv_goto C (tgt := 31) (D 32 (57, .goto (-26), 3) rfl) (by decide) ?_
          have hw9 : (cv_sb (fun v => cv_hold (cv_lu L 0 p v) rc rd rn) v) ||| (if cv_hold (cv_lu L 0 p v) rc rd rn = true then 2 ^ v else 0) = cv_sb (fun v => cv_hold (cv_lu L 0 p v) rc rd rn) (v + 1) := by simp only [cv_sb]; split <;> simp
          rw [hw9]
          exact ih31 (v + 1) u48 (by omega) hIu48
    exact LP31 3 0 σ (by decide) (cv_iv_0 _ _ σ)
  · skip
    refine cv_iconst C (pc' := 9) rfl (D 4 (8, .iconst (-1), 1) rfl) (v := -1) (by decide) ?_
    exact cv_iret C Rt rfl (D 5 (9, .ireturn, 1) rfl) ⟨congrArg (fun z => some (Value.int z)) (by unfold cv_a_kinds; rw [if_neg (by simp [b5])]), hR⟩

theorem cv_cnt_t {P : Nat → Bool} {n : Nat} (h : P n = true) : cv_cnt P (n + 1) = cv_cnt P n + 1 := by simp only [cv_cnt]; rw [if_pos h]
theorem cv_cnt_f {P : Nat → Bool} {n : Nat} (h : P n = false) : cv_cnt P (n + 1) = cv_cnt P n := by simp only [cv_cnt]; rw [if_neg (by simp [h])]; rfl
set_option maxHeartbeats 4000000 in
set_option maxRecDepth 100000 in
theorem pX6_gave (tr : Int32) (ft : Nat) (sl : Nat → Option (Nat × Nat)) (sc : Nat → Nat → Int32) (L : cv_L) (rc : Nat) (rd : Nat → Nat) (rn : Nat → Option Nat) (x y : Int32) (σ : cv_St) (hR : cv_RC tr ft sl sc L rc rd rn σ) (hB : cv_LB L) (hDB : cv_DB rc rd rn) : cv_Ct yX6_gave cX6_gave 7 (some .int) 5 0 0 26 cv_shC [.ref 0, .int x, .int y] σ (fun v u => v = some (.int (cv_a_gave L rc rd rn x y)) ∧ cv_RC tr ft sl sc L rc rd rn u) := by
  refine cv_enter (own := RX6) (by decide) rfl (Nat.le_of_ble_eq_true rfl) ?_
  intro X a C Rt hRm
  have D := @cv_dec _ _ dkX6_gave
  obtain ⟨hTr, hFt, hSh, hL, hSe, hD⟩ := id hR
  have hn6 := hB.1
  have hrc := hDB.1
  show cv_At X _ _ σ 0 [(0, .ref 0), (1, .int x), (2, .int y)] []
  refine cv_iload_n C (pc' := 1) rfl (D 0 (0, .iload_n 1, 1) rfl) rfl (j := 1) rfl ?_
  refine cv_callS C (pc' := 4) rfl (As := [.int x]) (rest := []) (idx := 122) (np := 1) (kX6_isValley x σ) (by decide +kernel) rfl wmX6_122 wt_yX6_isValley wn_X6 wc_yX6_isValley (by decide) (by decide) (D 1 (1, .invokestatic 122, 3) rfl) (Nat.le_of_ble_eq_true rfl) rfl (fun w9 u9 h9 => ?_)
  rw [h9.1, h9.2]
  show cv_At X _ _ σ 4 _ [.int (cv_b (cv_in x 3))]
  refine cv_if_neB C (pc' := 7) rfl (tgt := 9) (D 2 (4, .ifCond .ne 5, 3) rfl) (by decide) (fun b4 => ?_) (fun b4 => ?_)
  · skip
    refine cv_iload_n C (pc' := 10) rfl (D 5 (9, .iload_n 2, 1) rfl) rfl (j := 2) rfl ?_
    refine cv_iconst C (pc' := 11) rfl (D 6 (10, .iconst 2, 1) rfl) (v := nI 2) (by decide) ?_
    refine cv_callS C (pc' := 14) rfl (As := [.int y, .int (nI 2)]) (rest := []) (idx := 111) (np := 2) (kX6_isBelow y 2 σ) (by decide +kernel) rfl wmX6_111 wt_yX6_isBelow wn_X6 wc_yX6_isBelow (by decide) (by decide) (D 7 (11, .invokestatic 111, 3) rfl) (Nat.le_of_ble_eq_true rfl) rfl (fun w9 u9 h9 => ?_)
    rw [h9.1, h9.2]
    show cv_At X _ _ σ 14 _ [.int (cv_b (cv_in y 2))]
    refine cv_if_neB C (pc' := 17) rfl (tgt := 20) (D 8 (14, .ifCond .ne 6, 3) rfl) (by decide) (fun b14 => ?_) (fun b14 => ?_)
    · skip
      obtain ⟨j, hj, rfl⟩ := cv_in_of b4 (by omega)
      obtain ⟨w, hw, rfl⟩ := cv_in_of b14 (by omega)
      refine cv_aload_n C (pc' := 21) rfl (D 11 (20, .aload_n 0, 1) rfl) rfl (j := 0) rfl ?_
      refine cv_get C (pc' := 24) rfl (k0 := 0) (i := 1) (ci := 6) (by decide) rfl rfl (by decide) (o := some 10) rfl iw_X6 wfX6_21 (D 12 (21, .getfield 21, 3) rfl) rfl ?_
      refine cv_get C (pc' := 27) rfl (k0 := 10) (i := 5) (ci := 0) (by decide) rfl rfl (by decide) (o := none) rfl iw_X0 wfX6_115 (D 13 (24, .getfield 115, 3) rfl) (v := .int (cv_b (decide (0 < L 7 0)))) (congrArg Value.int hSe) ?_
      refine cv_if_neB C (pc' := 30) rfl (tgt := 33) (D 14 (27, .ifCond .ne 6, 3) rfl) (by decide) (fun b27 => ?_) (fun b27 => ?_)
      · skip
        refine cv_aload_n C (pc' := 34) rfl (D 17 (33, .aload_n 0, 1) rfl) rfl (j := 0) rfl ?_
        refine cv_get C (pc' := 37) rfl (k0 := 0) (i := 1) (ci := 6) (by decide) rfl rfl (by decide) (o := some 10) rfl iw_X6 wfX6_21 (D 18 (34, .getfield 21, 3) rfl) rfl ?_
        refine cv_iconst C (pc' := 38) rfl (D 19 (37, .iconst (-1), 1) rfl) (v := -1) (by decide) ?_
        refine cv_callV C (pc' := 41) rfl (k0 := 10) (ci := 0) (As := [.int (-1)]) (rest := []) (idx := 131) (np := 1) (kX0_chart L (-1) σ hL hB) (by decide) rfl rfl rfl (by decide +kernel) rfl wmX6_131 wi_yX0_chart ws_yX0_chart wn_X0 wc_yX0_chart (by decide) (by decide) (D 20 (38, .invokevirtual 131, 3) rfl) (Nat.le_of_ble_eq_true rfl) rfl (fun w38 u38 h38 => ?_)
        obtain ⟨e38, hCOu38⟩ := h38
        rw [e38]
        have hKu38 : ∀ k, k ≠ 20 → k ≠ 21 → k ≠ 22 → u38 k = σ k := fun k h _ _ => hCOu38.1 k h
        have hLu38 := cv_LC_k hKu38 hL hB
        have hTu38 := cv_TC_of hCOu38
        have hDu38 := cv_DC_k hKu38 hD
        show cv_At X _ _ u38 41 _ []
        refine cv_aload_n C (pc' := 42) rfl (D 21 (41, .aload_n 0, 1) rfl) rfl (j := 0) rfl ?_
        refine cv_get C (pc' := 45) rfl (k0 := 0) (i := 1) (ci := 6) (by decide) rfl rfl (by decide) (o := some 10) rfl iw_X6 wfX6_21 (D 22 (42, .getfield 21, 3) rfl) rfl ?_
        refine cv_get C (pc' := 48) rfl (k0 := 10) (i := 2) (ci := 0) (by decide) rfl rfl (by decide) (o := some 19) rfl iw_X0 wfX6_125 (D 23 (45, .getfield 125, 3) rfl) rfl ?_
        refine cv_iload_n C (pc' := 49) rfl (D 24 (48, .iload_n 1, 1) rfl) rfl (j := 1) rfl ?_
        refine cv_iald C (pc' := 50) rfl (k0 := 19) (j := j) (by decide) rfl rfl (by omega) (by decide) (D 25 (49, .iaload, 1) rfl) (v := nI (L 6 j)) (hLu38.2.2.1 _ (by omega)) ?_
        refine cv_istore_n C (pc' := 51) rfl (D 26 (50, .istore_n 3, 1) rfl) rfl (by decide) (lv' := [(3, .int (nI (L 6 j))), (0, .ref 0), (1, .int (nI j)), (2, .int (nI w))]) rfl ?_
        refine cv_iconst C (pc' := 52) rfl (D 27 (51, .iconst 0, 1) rfl) (v := nI 0) (by decide) ?_
        refine cv_istore C (pc' := 54) rfl (D 28 (52, .istore 4, 2) rfl) (by decide) (lv' := [(4, .int (nI 0)), (3, .int (nI (L 6 j))), (0, .ref 0), (1, .int (nI j)), (2, .int (nI w))]) rfl ?_
        refine cv_bipush C (pc' := 56) rfl (D 29 (54, .bipush (-9), 2) rfl) (v := -9) (by decide) ?_
        refine cv_istore C (pc' := 58) rfl (D 30 (56, .istore 5, 2) rfl) (by decide) (lv' := [(5, .int (-9)), (4, .int (nI 0)), (3, .int (nI (L 6 j))), (0, .ref 0), (1, .int (nI j)), (2, .int (nI w))]) rfl ?_
        refine cv_sipush C (pc' := 61) rfl (D 31 (58, .sipush 255, 3) rfl) (v := nI 255) (by decide) ?_
        refine cv_istore C (pc' := 63) rfl (D 32 (61, .istore 6, 2) rfl) (by decide) (lv' := [(6, .int (nI 255)), (5, .int (-9)), (4, .int (nI 0)), (3, .int (nI (L 6 j))), (0, .ref 0), (1, .int (nI j)), (2, .int (nI w))]) rfl ?_
        refine cv_pick [0, 1, 2, 4, 5, 6, 3] (lv' := [(6, .int (cv_dn 256)), (5, .int (cv_o none)), (4, .int (nI 0)), (0, .ref 0), (1, .int (nI j)), (2, .int (nI w)), (3, .int (nI (L 6 j)))]) rfl ?_
        have LP63 : ∀ (i : Nat) (c : Nat) (o : Option Nat) (τ : cv_St), (i ≤ 256) → (c + cv_cnt (fun s => cv_hold (cv_lu L 6 j s) rc rd rn) i = cv_cnt (fun s => cv_hold (cv_lu L 6 j s) rc rd rn) 256) → (cv_lst (fun s => cv_hold (cv_lu L 6 j s) rc rd rn) 256 = (match cv_lst (fun s => cv_hold (cv_lu L 6 j s) rc rd rn) i with | some z => some z | none => o)) → (cv_iv 19 j u38 τ) → (τ 20 = u38 20) → cv_At X (26, cv_shC, 0, 0, a) 7 τ 63 [(6, .int (cv_dn i)), (5, .int (cv_o o)), (4, .int (nI c)), (0, .ref 0), (1, .int (nI j)), (2, .int (nI w)), (3, .int (nI (L 6 j)))] [] := by
          intro i
          induction i with
          | zero =>
            intro c o τ hi hc ho hIτ hJτ
            show cv_At X _ _ τ 63 [(6, .int (-1)), (5, .int (cv_o o)), (4, .int (nI c)), (0, .ref 0), (1, .int (nI j)), (2, .int (nI w)), (3, .int (nI (L 6 j)))] []
            refine cv_iload C (pc' := 65) rfl (D 33 (63, .iload 6, 2) rfl) (j := 0) rfl ?_
            refine cv_if_lt C (pc' := 68) rfl (tgt := 106) (D 34 (65, .ifCond .lt 41, 3) rfl) (by decide) (fun _ => ?_) (fun h => absurd h (by decide))
            refine cv_aload_n C (pc' := 107) rfl (D 52 (106, .aload_n 0, 1) rfl) rfl (j := 3) rfl ?_
            refine cv_get C (pc' := 110) rfl (k0 := 0) (i := 1) (ci := 6) (by decide) rfl rfl (by decide) (o := some 10) rfl iw_X6 wfX6_21 (D 53 (107, .getfield 21, 3) rfl) rfl ?_
            refine cv_get C (pc' := 113) rfl (k0 := 10) (i := 2) (ci := 0) (by decide) rfl rfl (by decide) (o := some 19) rfl iw_X0 wfX6_125 (D 54 (110, .getfield 125, 3) rfl) rfl ?_
            refine cv_iload_n C (pc' := 114) rfl (D 55 (113, .iload_n 1, 1) rfl) rfl (j := 4) rfl ?_
            refine cv_iload_n C (pc' := 115) rfl (D 56 (114, .iload_n 3, 1) rfl) rfl (j := 6) rfl ?_
            refine cv_iast C (pc' := 116) rfl (k0 := 19) (j := j) (by decide) rfl rfl (by omega) (by decide) (D 57 (115, .iastore, 1) rfl) ?_
            refine cv_iload_n C (pc' := 117) rfl (D 58 (116, .iload_n 2, 1) rfl) rfl (j := 5) rfl ?_
            refine cv_if_neN C (pc' := 120) rfl (by omega) (tgt := 125) (D 59 (117, .ifCond .ne 8, 3) rfl) (by decide) (fun b117 => ?_) (fun b117 => ?_)
            · skip
              refine cv_iload C (pc' := 127) rfl (D 62 (125, .iload 5, 2) rfl) (j := 1) rfl ?_
              exact cv_iret C Rt rfl (D 63 (127, .ireturn, 1) rfl) ⟨congrArg (fun z => some (Value.int z)) (by unfold cv_a_gave; rw [if_pos b4, if_pos b14, if_pos (by simpa using b27), if_neg (fun h => by rw [← nI_0] at h; have := (nI_eq (by omega) (by omega)).mp h; omega), cv_nt, nI_clamp (by omega), ho] <;> rfl), cv_RC_k (fun k h1 h2 h3 => (cv_iv_end hIτ (hLu38.2.2.1 j (by omega)) k h1 h2 h3).trans (hKu38 k h1 h2 h3)) hB hR⟩
            · skip
              refine cv_iload C (pc' := 122) rfl (D 60 (120, .iload 4, 2) rfl) (j := 2) rfl ?_
              refine cv_goto C (tgt := 127) (D 61 (122, .goto 5, 3) rfl) (by decide) ?_
              exact cv_iret C Rt rfl (D 63 (127, .ireturn, 1) rfl) ⟨congrArg (fun z => some (Value.int z)) (by unfold cv_a_gave; rw [if_pos b4, if_pos b14, if_pos (by simpa using b27), if_pos (by rw [b117]; rfl), cv_nt, nI_clamp (by omega)]; exact congrArg nI hc), cv_RC_k (fun k h1 h2 h3 => (cv_iv_end hIτ (hLu38.2.2.1 j (by omega)) k h1 h2 h3).trans (hKu38 k h1 h2 h3)) hB hR⟩
          | succ i ih63 =>
            intro c o τ hi hc ho hIτ hJτ
            show cv_At X _ _ τ 63 [(6, .int (nI i)), (5, .int (cv_o o)), (4, .int (nI c)), (0, .ref 0), (1, .int (nI j)), (2, .int (nI w)), (3, .int (nI (L 6 j)))] []
            have hL2 : cv_LC (cv_lu L 6 j i) (cv_u τ 19 j (nI i)) := cv_LC_k (cv_iv_u hIτ (nI i)) (cv_LC_give hLu38 hB j i) (cv_LB_give hB (by omega))
            have hT2 : cv_TC (cv_RT (cv_lu L 6 j i) (fun q => decide (nI q = -1)) 8) (cv_u τ 19 j (nI i)) := fun q hq => by rw [cv_u_c (by decide), hJτ, cv_RT_give]; exact hTu38 q hq
            refine cv_iload C (pc' := 65) rfl (D 33 (63, .iload 6, 2) rfl) (j := 0) rfl ?_
            refine cv_if_lt C (pc' := 68) rfl (tgt := 106) (D 34 (65, .ifCond .lt 41, 3) rfl) (by decide) (fun b65 => ?_) (fun b65 => ?_)
            · skip
              exact absurd b65 (nI_pos (by omega))
            · skip
              refine cv_aload_n C (pc' := 69) rfl (D 35 (68, .aload_n 0, 1) rfl) rfl (j := 3) rfl ?_
              refine cv_get C (pc' := 72) rfl (k0 := 0) (i := 1) (ci := 6) (by decide) rfl rfl (by decide) (o := some 10) rfl iw_X6 wfX6_21 (D 36 (69, .getfield 21, 3) rfl) rfl ?_
              refine cv_get C (pc' := 75) rfl (k0 := 10) (i := 2) (ci := 0) (by decide) rfl rfl (by decide) (o := some 19) rfl iw_X0 wfX6_125 (D 37 (72, .getfield 125, 3) rfl) rfl ?_
              refine cv_iload_n C (pc' := 76) rfl (D 38 (75, .iload_n 1, 1) rfl) rfl (j := 4) rfl ?_
              refine cv_iload C (pc' := 78) rfl (D 39 (76, .iload 6, 2) rfl) (j := 0) rfl ?_
              refine cv_iast C (pc' := 79) rfl (k0 := 19) (j := j) (by decide) rfl rfl (by omega) (by decide) (D 40 (78, .iastore, 1) rfl) ?_
              refine cv_aload_n C (pc' := 80) rfl (D 41 (79, .aload_n 0, 1) rfl) rfl (j := 3) rfl ?_
              refine cv_get C (pc' := 83) rfl (k0 := 0) (i := 3) (ci := 6) (by decide) rfl rfl (by decide) (o := some 23) rfl iw_X6 wfX6_35 (D 42 (80, .getfield 35, 3) rfl) rfl ?_
              refine cv_aload_n C (pc' := 84) rfl (D 43 (83, .aload_n 0, 1) rfl) rfl (j := 3) rfl ?_
              refine cv_get C (pc' := 87) rfl (k0 := 0) (i := 1) (ci := 6) (by decide) rfl rfl (by decide) (o := some 10) rfl iw_X6 wfX6_21 (D 44 (84, .getfield 21, 3) rfl) rfl ?_
              refine cv_callV C (pc' := 90) rfl (k0 := 23) (ci := 2) (As := [.ref 10]) (rest := []) (idx := 178) (np := 1) (kX2_holdIn (cv_lu L 6 j i) (cv_RT (cv_lu L 6 j i) (fun q => decide (nI q = -1)) 8) rc rd rn (cv_u τ 19 j (nI i)) hL2 (cv_LB_give hB (by omega)) hT2 (cv_iv_D (by decide) hIτ hDu38 (nI i)) hDB) (by decide) rfl rfl rfl (by decide +kernel) rfl wmX6_178 wi_yX2_holdIn ws_yX2_holdIn wn_X2 wc_yX2_holdIn (by decide) (by decide) (D 45 (87, .invokevirtual 178, 3) rfl) (Nat.le_of_ble_eq_true rfl) rfl (fun w9 u9 h9 => ?_)
              rw [h9.1, h9.2]
              show cv_At X _ _ (cv_u τ 19 j (nI i)) 90 _ [.int (cv_b (cv_hold (cv_lu L 6 j i) rc rd rn))]
              refine cv_if_eqB C (pc' := 93) rfl (tgt := 100) (D 46 (90, .ifCond .eq 10, 3) rfl) (by decide) (fun b90 => ?_) (fun b90 => ?_)
              · skip
                refine cv_iinc C (pc' := 103) rfl (D 50 (100, .iinc 6 (-1), 3) rfl) (j := 0) rfl (v := cv_dn i) (cv_dn_dec i) (by decide) (lv' := [(6, .int (cv_dn i)), (5, .int (cv_o o)), (4, .int (nI c)), (0, .ref 0), (1, .int (nI j)), (2, .int (nI w)), (3, .int (nI (L 6 j)))]) rfl ?_
                refine cv_goto C (tgt := 63) (D 51 (103, .goto (-40), 3) rfl) (by decide) ?_
                exact ih63 c o (cv_u τ 19 j (nI i)) (by omega) (by rw [← hc, cv_cnt_f (P := (fun s => cv_hold (cv_lu L 6 j s) rc rd rn)) b90]) (by rw [ho, cv_lst_s]; cases cv_lst (fun s => cv_hold (cv_lu L 6 j s) rc rd rn) i with | some z => rfl | none => simp [b90]) (cv_iv_s (by decide) hIτ (fun k _ _ _ => rfl)) (by rw [cv_u_c (by decide)]; exact hJτ)
              · skip
                refine cv_iincN C (pc' := 96) rfl (D 47 (93, .iinc 4 1, 3) rfl) (j := 2) rfl (by decide) (lv' := [(4, .int (nI (c + 1))), (6, .int (nI i)), (5, .int (cv_o o)), (0, .ref 0), (1, .int (nI j)), (2, .int (nI w)), (3, .int (nI (L 6 j)))]) rfl ?_
                refine cv_iload C (pc' := 98) rfl (D 48 (96, .iload 6, 2) rfl) (j := 1) rfl ?_
                refine cv_istore C (pc' := 100) rfl (D 49 (98, .istore 5, 2) rfl) (by decide) (lv' := [(5, .int (nI i)), (4, .int (nI (c + 1))), (6, .int (nI i)), (0, .ref 0), (1, .int (nI j)), (2, .int (nI w)), (3, .int (nI (L 6 j)))]) rfl ?_
                refine cv_iinc C (pc' := 103) rfl (D 50 (100, .iinc 6 (-1), 3) rfl) (j := 2) rfl (v := cv_dn i) (cv_dn_dec i) (by decide) (lv' := [(6, .int (cv_dn i)), (5, .int (nI i)), (4, .int (nI (c + 1))), (0, .ref 0), (1, .int (nI j)), (2, .int (nI w)), (3, .int (nI (L 6 j)))]) rfl ?_
                refine cv_goto C (tgt := 63) (D 51 (103, .goto (-40), 3) rfl) (by decide) ?_
                exact ih63 (c + 1) (some i) (cv_u τ 19 j (nI i)) (by omega) (by rw [← hc, cv_cnt_t (P := (fun s => cv_hold (cv_lu L 6 j s) rc rd rn)) b90]; omega) (by rw [ho, cv_lst_s]; cases cv_lst (fun s => cv_hold (cv_lu L 6 j s) rc rd rn) i with | some z => rfl | none => simp [b90]) (cv_iv_s (by decide) hIτ (fun k _ _ _ => rfl)) (by rw [cv_u_c (by decide)]; exact hJτ)
        exact LP63 256 0 none u38 (by decide) (by omega) (by cases cv_lst (fun s => cv_hold (cv_lu L 6 j s) rc rd rn) 256 <;> rfl) (cv_iv_0 _ _ _) rfl
      · skip
        refine cv_bipush C (pc' := 32) rfl (D 15 (30, .bipush (-3), 2) rfl) (v := -3) (by decide) ?_
        exact cv_iret C Rt rfl (D 16 (32, .ireturn, 1) rfl) ⟨congrArg (fun z => some (Value.int z)) (by unfold cv_a_gave; rw [if_pos b4, if_pos b14, if_neg (by simpa using b27)]), hR⟩
    · skip
      refine cv_bipush C (pc' := 19) rfl (D 9 (17, .bipush (-2), 2) rfl) (v := -2) (by decide) ?_
      exact cv_iret C Rt rfl (D 10 (19, .ireturn, 1) rfl) ⟨congrArg (fun z => some (Value.int z)) (by unfold cv_a_gave; rw [if_pos b4, if_neg (by simp [b14])]), hR⟩
  · skip
    refine cv_iconst C (pc' := 8) rfl (D 3 (7, .iconst (-1), 1) rfl) (v := -1) (by decide) ?_
    exact cv_iret C Rt rfl (D 4 (8, .ireturn, 1) rfl) ⟨congrArg (fun z => some (Value.int z)) (by unfold cv_a_gave; rw [if_neg (by simp [b4])]), hR⟩

set_option maxHeartbeats 4000000 in
set_option maxRecDepth 100000 in
theorem kX6_passTelling (L : cv_L) (p : Nat) (σ : cv_St) (hL : cv_LC L σ) (hB : cv_LB L) (hp : p < L 7 0) : cv_Ct yX6_passTelling cX6_passTelling 2 (some .int) 1 0 0 26 cv_shC [.ref 0, .ref (12 + p)] σ (fun v u => v = some (.int (nI (L 4 p))) ∧ u = cv_u σ 0 4 (cv_lv 1 (σ 0 4))) := by
  refine cv_enter (own := RX6) (by decide) rfl (Nat.le_of_ble_eq_true rfl) ?_
  intro X a C Rt hRm
  have D := @cv_dec _ _ dkX6_passTelling
  have hp6 : p < 6 := Nat.lt_of_lt_of_le hp hB.1
  obtain ⟨g0, g1, g2, g3, g4⟩ := hB.2.1 p hp
  show cv_At X _ _ σ 0 [(0, .ref 0), (1, .ref (12 + p))] []
  refine cv_aload_n C (pc' := 1) rfl (D 0 (0, .aload_n 0, 1) rfl) rfl (j := 0) rfl ?_
  refine cv_iconst C (pc' := 2) rfl (D 1 (1, .iconst 1, 1) rfl) (v := nI 1) (by decide) ?_
  refine cv_callV C (pc' := 5) rfl (k0 := 0) (ci := 6) (As := [.int (nI 1)]) (rest := []) (idx := 225) (np := 1) (kX6_leave 1 σ) (by decide) rfl rfl rfl (by decide +kernel) rfl wmX6_225 wi_yX6_leave ws_yX6_leave wn_X6 wc_yX6_leave (by decide) (by decide) (D 2 (2, .invokevirtual 225, 3) rfl) (Nat.le_of_ble_eq_true rfl) rfl (fun w2 u2 h2 => ?_)
  rw [h2.1, h2.2]
  have et2 : cv_u σ 0 4 (nI 31 * σ 0 4 + nI 1) = cv_u σ 0 4 (cv_lv 1 (σ 0 4)) := rfl
  rw [et2]
  show cv_At X _ _ (cv_u σ 0 4 (cv_lv 1 (σ 0 4))) 5 _ []
  refine cv_aload_n C (pc' := 6) rfl (D 3 (5, .aload_n 1, 1) rfl) rfl (j := 1) rfl ?_
  refine cv_get C (pc' := 9) rfl (k0 := 12 + p) (i := 4) (ci := 1) (cv_lt_p hp6) (cv_shC_p hp6) rfl (by decide) (o := none) rfl iw_X1 wfX6_102 (D 4 (6, .getfield 102, 3) rfl) (v := .int (nI (L 4 p))) (congrArg Value.int ((congrFun (cv_u_c (by omega)) _).trans (hL.2.2.2 p hp 4 (by decide)))) ?_
  exact cv_iret C Rt rfl (D 5 (9, .ireturn, 1) rfl) ⟨rfl, rfl⟩

set_option maxHeartbeats 4000000 in
set_option maxRecDepth 100000 in
theorem kX6_steepTelling (L : cv_L) (p : Nat) (σ : cv_St) (hL : cv_LC L σ) (hB : cv_LB L) (hp : p < L 7 0) : cv_Ct yX6_steepTelling cX6_steepTelling 2 (some .int) 2 0 0 26 cv_shC [.ref 0, .ref (12 + p)] σ (fun v u => v = some (.int (nI (L 4 p + 100))) ∧ u = cv_u σ 0 4 (cv_lv 1 (cv_lv 2 (σ 0 4)))) := by
  refine cv_enter (own := RX6) (by decide) rfl (Nat.le_of_ble_eq_true rfl) ?_
  intro X a C Rt hRm
  have D := @cv_dec _ _ dkX6_steepTelling
  have hp6 : p < 6 := Nat.lt_of_lt_of_le hp hB.1
  obtain ⟨g0, g1, g2, g3, g4⟩ := hB.2.1 p hp
  show cv_At X _ _ σ 0 [(0, .ref 0), (1, .ref (12 + p))] []
  refine cv_aload_n C (pc' := 1) rfl (D 0 (0, .aload_n 0, 1) rfl) rfl (j := 0) rfl ?_
  refine cv_iconst C (pc' := 2) rfl (D 1 (1, .iconst 2, 1) rfl) (v := nI 2) (by decide) ?_
  refine cv_callV C (pc' := 5) rfl (k0 := 0) (ci := 6) (As := [.int (nI 2)]) (rest := []) (idx := 225) (np := 1) (kX6_leave 2 σ) (by decide) rfl rfl rfl (by decide +kernel) rfl wmX6_225 wi_yX6_leave ws_yX6_leave wn_X6 wc_yX6_leave (by decide) (by decide) (D 2 (2, .invokevirtual 225, 3) rfl) (Nat.le_of_ble_eq_true rfl) rfl (fun w2 u2 h2 => ?_)
  rw [h2.1, h2.2]
  have et2 : cv_u σ 0 4 (nI 31 * σ 0 4 + nI 2) = cv_u σ 0 4 (cv_lv 2 (σ 0 4)) := rfl
  rw [et2]
  show cv_At X _ _ (cv_u σ 0 4 (cv_lv 2 (σ 0 4))) 5 _ []
  refine cv_aload_n C (pc' := 6) rfl (D 3 (5, .aload_n 0, 1) rfl) rfl (j := 0) rfl ?_
  refine cv_aload_n C (pc' := 7) rfl (D 4 (6, .aload_n 1, 1) rfl) rfl (j := 1) rfl ?_
  refine cv_callV C (pc' := 10) rfl (k0 := 0) (ci := 6) (As := [.ref (12 + p)]) (rest := []) (idx := 222) (np := 1) (kX6_passTelling L p (cv_u σ 0 4 (cv_lv 2 (σ 0 4))) (cv_LC_0 hL hB) hB hp) (by decide) rfl rfl rfl (by decide +kernel) rfl wmX6_222 wi_yX6_passTelling ws_yX6_passTelling wn_X6 wc_yX6_passTelling (by decide) (by decide) (D 5 (7, .invokevirtual 222, 3) rfl) (Nat.le_of_ble_eq_true rfl) rfl (fun w7 u7 h7 => ?_)
  rw [h7.1, h7.2]
  have et7 : cv_u (cv_u σ 0 4 (cv_lv 2 (σ 0 4))) 0 4 (cv_lv 1 ((cv_u σ 0 4 (cv_lv 2 (σ 0 4))) 0 4)) = cv_u σ 0 4 (cv_lv 1 (cv_lv 2 (σ 0 4))) := by rw [cv_uu, cv_u_s]
  rw [et7]
  show cv_At X _ _ (cv_u σ 0 4 (cv_lv 1 (cv_lv 2 (σ 0 4)))) 10 _ [.int (nI (L 4 p))]
  refine cv_bipush C (pc' := 12) rfl (D 6 (10, .bipush 100, 2) rfl) (v := nI 100) (by decide) ?_
  refine cv_iaddN C (pc' := 13) rfl (D 7 (12, .iadd, 1) rfl) ?_
  exact cv_iret C Rt rfl (D 8 (13, .ireturn, 1) rfl) ⟨rfl, rfl⟩

set_option maxHeartbeats 4000000 in
set_option maxRecDepth 100000 in
theorem kX6_tunnelTelling (L : cv_L) (p : Nat) (σ : cv_St) (hL : cv_LC L σ) (hB : cv_LB L) (hp : p < L 7 0) : cv_Ct yX6_tunnelTelling cX6_tunnelTelling 3 (some .int) 3 0 0 26 cv_shC [.ref 0, .ref (12 + p)] σ (fun v u => v = some (.int (nI (L 4 p + 100 + L 4 p))) ∧ u = cv_u σ 0 4 (cv_lv 1 (cv_lv 1 (cv_lv 2 (cv_lv 3 (σ 0 4)))))) := by
  refine cv_enter (own := RX6) (by decide) rfl (Nat.le_of_ble_eq_true rfl) ?_
  intro X a C Rt hRm
  have D := @cv_dec _ _ dkX6_tunnelTelling
  have hp6 : p < 6 := Nat.lt_of_lt_of_le hp hB.1
  obtain ⟨g0, g1, g2, g3, g4⟩ := hB.2.1 p hp
  show cv_At X _ _ σ 0 [(0, .ref 0), (1, .ref (12 + p))] []
  refine cv_aload_n C (pc' := 1) rfl (D 0 (0, .aload_n 0, 1) rfl) rfl (j := 0) rfl ?_
  refine cv_iconst C (pc' := 2) rfl (D 1 (1, .iconst 3, 1) rfl) (v := nI 3) (by decide) ?_
  refine cv_callV C (pc' := 5) rfl (k0 := 0) (ci := 6) (As := [.int (nI 3)]) (rest := []) (idx := 225) (np := 1) (kX6_leave 3 σ) (by decide) rfl rfl rfl (by decide +kernel) rfl wmX6_225 wi_yX6_leave ws_yX6_leave wn_X6 wc_yX6_leave (by decide) (by decide) (D 2 (2, .invokevirtual 225, 3) rfl) (Nat.le_of_ble_eq_true rfl) rfl (fun w2 u2 h2 => ?_)
  rw [h2.1, h2.2]
  have et2 : cv_u σ 0 4 (nI 31 * σ 0 4 + nI 3) = cv_u σ 0 4 (cv_lv 3 (σ 0 4)) := rfl
  rw [et2]
  show cv_At X _ _ (cv_u σ 0 4 (cv_lv 3 (σ 0 4))) 5 _ []
  refine cv_aload_n C (pc' := 6) rfl (D 3 (5, .aload_n 0, 1) rfl) rfl (j := 0) rfl ?_
  refine cv_aload_n C (pc' := 7) rfl (D 4 (6, .aload_n 1, 1) rfl) rfl (j := 1) rfl ?_
  refine cv_callV C (pc' := 10) rfl (k0 := 0) (ci := 6) (As := [.ref (12 + p)]) (rest := []) (idx := 215) (np := 1) (kX6_steepTelling L p (cv_u σ 0 4 (cv_lv 3 (σ 0 4))) (cv_LC_0 hL hB) hB hp) (by decide) rfl rfl rfl (by decide +kernel) rfl wmX6_215 wi_yX6_steepTelling ws_yX6_steepTelling wn_X6 wc_yX6_steepTelling (by decide) (by decide) (D 5 (7, .invokevirtual 215, 3) rfl) (Nat.le_of_ble_eq_true rfl) rfl (fun w7 u7 h7 => ?_)
  rw [h7.1, h7.2]
  have et7 : cv_u (cv_u σ 0 4 (cv_lv 3 (σ 0 4))) 0 4 (cv_lv 1 (cv_lv 2 ((cv_u σ 0 4 (cv_lv 3 (σ 0 4))) 0 4))) = cv_u σ 0 4 (cv_lv 1 (cv_lv 2 (cv_lv 3 (σ 0 4)))) := by rw [cv_uu, cv_u_s]
  rw [et7]
  show cv_At X _ _ (cv_u σ 0 4 (cv_lv 1 (cv_lv 2 (cv_lv 3 (σ 0 4))))) 10 _ [.int (nI (L 4 p + 100))]
  refine cv_istore_n C (pc' := 11) rfl (D 6 (10, .istore_n 2, 1) rfl) rfl (by decide) (lv' := [(2, .int (nI (L 4 p + 100))), (0, .ref 0), (1, .ref (12 + p))]) rfl ?_
  refine cv_iload_n C (pc' := 12) rfl (D 7 (11, .iload_n 2, 1) rfl) rfl (j := 0) rfl ?_
  refine cv_aload_n C (pc' := 13) rfl (D 8 (12, .aload_n 0, 1) rfl) rfl (j := 1) rfl ?_
  refine cv_aload_n C (pc' := 14) rfl (D 9 (13, .aload_n 1, 1) rfl) rfl (j := 2) rfl ?_
  refine cv_callV C (pc' := 17) rfl (k0 := 0) (ci := 6) (As := [.ref (12 + p)]) (rest := [.int (nI (L 4 p + 100))]) (idx := 222) (np := 1) (kX6_passTelling L p (cv_u σ 0 4 (cv_lv 1 (cv_lv 2 (cv_lv 3 (σ 0 4))))) (cv_LC_0 hL hB) hB hp) (by decide) rfl rfl rfl (by decide +kernel) rfl wmX6_222 wi_yX6_passTelling ws_yX6_passTelling wn_X6 wc_yX6_passTelling (by decide) (by decide) (D 10 (14, .invokevirtual 222, 3) rfl) (Nat.le_of_ble_eq_true rfl) rfl (fun w14 u14 h14 => ?_)
  rw [h14.1, h14.2]
  have et14 : cv_u (cv_u σ 0 4 (cv_lv 1 (cv_lv 2 (cv_lv 3 (σ 0 4))))) 0 4 (cv_lv 1 ((cv_u σ 0 4 (cv_lv 1 (cv_lv 2 (cv_lv 3 (σ 0 4))))) 0 4)) = cv_u σ 0 4 (cv_lv 1 (cv_lv 1 (cv_lv 2 (cv_lv 3 (σ 0 4))))) := by rw [cv_uu, cv_u_s]
  rw [et14]
  show cv_At X _ _ (cv_u σ 0 4 (cv_lv 1 (cv_lv 1 (cv_lv 2 (cv_lv 3 (σ 0 4)))))) 17 _ [.int (nI (L 4 p)), .int (nI (L 4 p + 100))]
  refine cv_iaddN C (pc' := 18) rfl (D 11 (17, .iadd, 1) rfl) ?_
  exact cv_iret C Rt rfl (D 12 (18, .ireturn, 1) rfl) ⟨rfl, rfl⟩

set_option maxHeartbeats 4000000 in
set_option maxRecDepth 100000 in
theorem pX6_tell (tr : Int32) (ft : Nat) (sl : Nat → Option (Nat × Nat)) (sc : Nat → Nat → Int32) (L : cv_L) (rc : Nat) (rd : Nat → Nat) (rn : Nat → Option Nat) (x : Int32) (σ : cv_St) (hR : cv_RC tr ft sl sc L rc rd rn σ) (hB : cv_LB L) (hDB : cv_DB rc rd rn) : cv_Ct yX6_tell cX6_tell 3 (some .int) 4 0 0 26 cv_shC [.ref 0, .int x] σ (fun v u => v = some (.int (cv_a_tell L x)) ∧ cv_RC (cv_t_tell L tr x) ft sl sc L rc rd rn u) := by
  refine cv_enter (own := RX6) (by decide) rfl (Nat.le_of_ble_eq_true rfl) ?_
  intro X a C Rt hRm
  have D := @cv_dec _ _ dkX6_tell
  obtain ⟨hTr, hFt, hSh, hL, hSe, hD⟩ := id hR
  have hn6 := hB.1
  have hrc := hDB.1
  show cv_At X _ _ σ 0 [(0, .ref 0), (1, .int x)] []
  refine cv_aload_n C (pc' := 1) rfl (D 0 (0, .aload_n 0, 1) rfl) rfl (j := 0) rfl ?_
  refine cv_iload_n C (pc' := 2) rfl (D 1 (1, .iload_n 1, 1) rfl) rfl (j := 1) rfl ?_
  refine cv_callV C (pc' := 5) rfl (k0 := 0) (ci := 6) (As := [.int x]) (rest := []) (idx := 81) (np := 1) (kX6_isPass x L σ hL) (by decide) rfl rfl rfl (by decide +kernel) rfl wmX6_81 wi_yX6_isPass ws_yX6_isPass wn_X6 wc_yX6_isPass (by decide) (by decide) (D 2 (2, .invokevirtual 81, 3) rfl) (Nat.le_of_ble_eq_true rfl) rfl (fun w9 u9 h9 => ?_)
  rw [h9.1, h9.2]
  show cv_At X _ _ σ 5 _ [.int (cv_b (cv_in x (L 7 0)))]
  refine cv_if_neB C (pc' := 8) rfl (tgt := 10) (D 3 (5, .ifCond .ne 5, 3) rfl) (by decide) (fun b5 => ?_) (fun b5 => ?_)
  · skip
    obtain ⟨p, hp, rfl⟩ := cv_in_of b5 (by omega)
    have hp6 : p < 6 := by omega
    have hp := hp
    refine cv_aload_n C (pc' := 11) rfl (D 6 (10, .aload_n 0, 1) rfl) rfl (j := 0) rfl ?_
    refine cv_get C (pc' := 14) rfl (k0 := 0) (i := 1) (ci := 6) (by decide) rfl rfl (by decide) (o := some 10) rfl iw_X6 wfX6_21 (D 7 (11, .getfield 21, 3) rfl) rfl ?_
    refine cv_get C (pc' := 17) rfl (k0 := 10) (i := 0) (ci := 0) (by decide) rfl rfl (by decide) (o := some 11) rfl iw_X0 wfX6_84 (D 8 (14, .getfield 84, 3) rfl) rfl ?_
    refine cv_iload_n C (pc' := 18) rfl (D 9 (17, .iload_n 1, 1) rfl) rfl (j := 1) rfl ?_
    refine cv_aald C (pc' := 19) rfl (k0 := 11) (j := p) (r := 12 + p) (by decide) rfl rfl rfl (cv_ix_p hp6) (by decide) (D 10 (18, .aaload, 1) rfl) ?_
    refine cv_astore_n C (pc' := 20) rfl (D 11 (19, .astore_n 2, 1) rfl) rfl (by decide) (lv' := [(2, .ref (12 + p)), (0, .ref 0), (1, .int (nI p))]) rfl ?_
    refine cv_aload_n C (pc' := 21) rfl (D 12 (20, .aload_n 2, 1) rfl) rfl (j := 0) rfl ?_
    refine cv_get C (pc' := 24) rfl (k0 := 12 + p) (i := 0) (ci := 1) (cv_lt_p hp6) (cv_shC_p hp6) rfl (by decide) (o := none) rfl iw_X1 wfX6_88 (D 13 (21, .getfield 88, 3) rfl) (v := .int (nI (L 0 p))) (congrArg Value.int (hL.2.2.2 p hp 0 (by decide))) ?_
    have hk : L 0 p = 0 ∨ L 0 p = 1 ∨ L 0 p = 2 := by have := (hB.2.1 p hp).1; omega
    rcases hk with hk | hk | hk
    · skip
      refine cv_top (w := nI 0) (congrArg nI hk) ?_
      refine cv_lookup C (D 14 (24, .lookupswitch 40 #[(1, 28), (2, 34)], 28) rfl) (off := 40) (tgt := 64) (by decide) (by decide) (by decide) ?_
      refine cv_aload_n C (pc' := 65) rfl (D 23 (64, .aload_n 0, 1) rfl) rfl (j := 1) rfl ?_
      refine cv_aload_n C (pc' := 66) rfl (D 24 (65, .aload_n 2, 1) rfl) rfl (j := 0) rfl ?_
      refine cv_callV C (pc' := 69) rfl (k0 := 0) (ci := 6) (As := [.ref (12 + p)]) (rest := []) (idx := 222) (np := 1) (kX6_passTelling L p σ hL hB hp) (by decide) rfl rfl rfl (by decide +kernel) rfl wmX6_222 wi_yX6_passTelling ws_yX6_passTelling wn_X6 wc_yX6_passTelling (by decide) (by decide) (D 25 (66, .invokevirtual 222, 3) rfl) (Nat.le_of_ble_eq_true rfl) rfl (fun w66 u66 h66 => ?_)
      rw [h66.1, h66.2, hTr]
      show cv_At X _ _ (cv_u σ 0 4 (cv_lv 1 tr)) 69 _ [.int (nI (L 4 p))]
      exact cv_iret C Rt rfl (D 26 (69, .ireturn, 1) rfl) ⟨congrArg (fun z => some (Value.int z)) (by unfold cv_a_tell; rw [if_pos b5, cv_nt, nI_clamp (by omega)]; rw [if_neg (by omega), if_neg (by omega)]), by unfold cv_t_tell; rw [if_pos b5, cv_nt, nI_clamp (by omega)]; rw [if_neg (by omega), if_neg (by omega)]; exact cv_RC_t _ hR⟩
    · skip
      refine cv_top (w := nI 1) (congrArg nI hk) ?_
      refine cv_lookup C (D 14 (24, .lookupswitch 40 #[(1, 28), (2, 34)], 28) rfl) (off := 28) (tgt := 52) (by decide) (by decide) (by decide) ?_
      refine cv_aload_n C (pc' := 53) rfl (D 15 (52, .aload_n 0, 1) rfl) rfl (j := 1) rfl ?_
      refine cv_aload_n C (pc' := 54) rfl (D 16 (53, .aload_n 2, 1) rfl) rfl (j := 0) rfl ?_
      refine cv_callV C (pc' := 57) rfl (k0 := 0) (ci := 6) (As := [.ref (12 + p)]) (rest := []) (idx := 215) (np := 1) (kX6_steepTelling L p σ hL hB hp) (by decide) rfl rfl rfl (by decide +kernel) rfl wmX6_215 wi_yX6_steepTelling ws_yX6_steepTelling wn_X6 wc_yX6_steepTelling (by decide) (by decide) (D 17 (54, .invokevirtual 215, 3) rfl) (Nat.le_of_ble_eq_true rfl) rfl (fun w54 u54 h54 => ?_)
      rw [h54.1, h54.2, hTr]
      show cv_At X _ _ (cv_u σ 0 4 (cv_lv 1 (cv_lv 2 tr))) 57 _ [.int (nI (L 4 p + 100))]
      exact cv_iret C Rt rfl (D 18 (57, .ireturn, 1) rfl) ⟨congrArg (fun z => some (Value.int z)) (by unfold cv_a_tell; rw [if_pos b5, cv_nt, nI_clamp (by omega)]; rw [if_pos hk]), by unfold cv_t_tell; rw [if_pos b5, cv_nt, nI_clamp (by omega)]; rw [if_pos hk]; exact cv_RC_t _ hR⟩
    · skip
      refine cv_top (w := nI 2) (congrArg nI hk) ?_
      refine cv_lookup C (D 14 (24, .lookupswitch 40 #[(1, 28), (2, 34)], 28) rfl) (off := 34) (tgt := 58) (by decide) (by decide) (by decide) ?_
      refine cv_aload_n C (pc' := 59) rfl (D 19 (58, .aload_n 0, 1) rfl) rfl (j := 1) rfl ?_
      refine cv_aload_n C (pc' := 60) rfl (D 20 (59, .aload_n 2, 1) rfl) rfl (j := 0) rfl ?_
      refine cv_callV C (pc' := 63) rfl (k0 := 0) (ci := 6) (As := [.ref (12 + p)]) (rest := []) (idx := 219) (np := 1) (kX6_tunnelTelling L p σ hL hB hp) (by decide) rfl rfl rfl (by decide +kernel) rfl wmX6_219 wi_yX6_tunnelTelling ws_yX6_tunnelTelling wn_X6 wc_yX6_tunnelTelling (by decide) (by decide) (D 21 (60, .invokevirtual 219, 3) rfl) (Nat.le_of_ble_eq_true rfl) rfl (fun w60 u60 h60 => ?_)
      rw [h60.1, h60.2, hTr]
      show cv_At X _ _ (cv_u σ 0 4 (cv_lv 1 (cv_lv 1 (cv_lv 2 (cv_lv 3 tr))))) 63 _ [.int (nI (L 4 p + 100 + L 4 p))]
      exact cv_iret C Rt rfl (D 22 (63, .ireturn, 1) rfl) ⟨congrArg (fun z => some (Value.int z)) (by unfold cv_a_tell; rw [if_pos b5, cv_nt, nI_clamp (by omega)]; rw [if_neg (by omega), if_pos hk]), by unfold cv_t_tell; rw [if_pos b5, cv_nt, nI_clamp (by omega)]; rw [if_neg (by omega), if_pos hk]; exact cv_RC_t _ hR⟩
  · skip
    refine cv_iconst C (pc' := 9) rfl (D 4 (8, .iconst (-1), 1) rfl) (v := -1) (by decide) ?_
    exact cv_iret C Rt rfl (D 5 (9, .ireturn, 1) rfl) ⟨congrArg (fun z => some (Value.int z)) (by unfold cv_a_tell; rw [if_neg (by simp [b5])]), by unfold cv_t_tell; rw [if_neg (by simp [b5])]; exact hR⟩

set_option maxHeartbeats 4000000 in
set_option maxRecDepth 100000 in
theorem pX6_mark (tr : Int32) (ft : Nat) (sl : Nat → Option (Nat × Nat)) (sc : Nat → Nat → Int32) (L : cv_L) (rc : Nat) (rd : Nat → Nat) (rn : Nat → Option Nat) (x : Int32) (σ : cv_St) (hR : cv_RC tr ft sl sc L rc rd rn σ) (hB : cv_LB L) (hDB : cv_DB rc rd rn) : cv_Ct yX6_mark cX6_mark 2 (some .int) 2 0 0 26 cv_shC [.ref 0, .int x] σ (fun v u => v = some (.int (cv_a_mark L x)) ∧ cv_RC (cv_t_mark L tr x) ft sl sc L rc rd rn u) := by
  refine cv_enter (own := RX6) (by decide) rfl (Nat.le_of_ble_eq_true rfl) ?_
  intro X a C Rt hRm
  have D := @cv_dec _ _ dkX6_mark
  obtain ⟨hTr, hFt, hSh, hL, hSe, hD⟩ := id hR
  have hn6 := hB.1
  have hrc := hDB.1
  show cv_At X _ _ σ 0 [(0, .ref 0), (1, .int x)] []
  refine cv_aload_n C (pc' := 1) rfl (D 0 (0, .aload_n 0, 1) rfl) rfl (j := 0) rfl ?_
  refine cv_iload_n C (pc' := 2) rfl (D 1 (1, .iload_n 1, 1) rfl) rfl (j := 1) rfl ?_
  refine cv_callV C (pc' := 5) rfl (k0 := 0) (ci := 6) (As := [.int x]) (rest := []) (idx := 81) (np := 1) (kX6_isPass x L σ hL) (by decide) rfl rfl rfl (by decide +kernel) rfl wmX6_81 wi_yX6_isPass ws_yX6_isPass wn_X6 wc_yX6_isPass (by decide) (by decide) (D 2 (2, .invokevirtual 81, 3) rfl) (Nat.le_of_ble_eq_true rfl) rfl (fun w9 u9 h9 => ?_)
  rw [h9.1, h9.2]
  show cv_At X _ _ σ 5 _ [.int (cv_b (cv_in x (L 7 0)))]
  refine cv_if_neB C (pc' := 8) rfl (tgt := 10) (D 3 (5, .ifCond .ne 5, 3) rfl) (by decide) (fun b5 => ?_) (fun b5 => ?_)
  · skip
    obtain ⟨p, hp, rfl⟩ := cv_in_of b5 (by omega)
    have hp6 : p < 6 := by omega
    have hp := hp
    have hk2 := (hB.2.1 p hp).1
    refine cv_aload_n C (pc' := 11) rfl (D 6 (10, .aload_n 0, 1) rfl) rfl (j := 0) rfl ?_
    refine cv_get C (pc' := 14) rfl (k0 := 0) (i := 1) (ci := 6) (by decide) rfl rfl (by decide) (o := some 10) rfl iw_X6 wfX6_21 (D 7 (11, .getfield 21, 3) rfl) rfl ?_
    refine cv_get C (pc' := 17) rfl (k0 := 10) (i := 0) (ci := 0) (by decide) rfl rfl (by decide) (o := some 11) rfl iw_X0 wfX6_84 (D 8 (14, .getfield 84, 3) rfl) rfl ?_
    refine cv_iload_n C (pc' := 18) rfl (D 9 (17, .iload_n 1, 1) rfl) rfl (j := 1) rfl ?_
    refine cv_aald C (pc' := 19) rfl (k0 := 11) (j := p) (r := 12 + p) (by decide) rfl rfl rfl (cv_ix_p hp6) (by decide) (D 10 (18, .aaload, 1) rfl) ?_
    refine cv_get C (pc' := 22) rfl (k0 := 12 + p) (i := 0) (ci := 1) (cv_lt_p hp6) (cv_shC_p hp6) rfl (by decide) (o := none) rfl iw_X1 wfX6_88 (D 11 (19, .getfield 88, 3) rfl) (v := .int (nI (L 0 p))) (congrArg Value.int (hL.2.2.2 p hp 0 (by decide))) ?_
    refine cv_iconst C (pc' := 23) rfl (D 12 (22, .iconst 2, 1) rfl) (v := nI 2) (by decide) ?_
    refine cv_icmp_neN C (pc' := 26) rfl (by omega) (by omega) (tgt := 34) (D 13 (23, .if_icmp .ne 11, 3) rfl) (by decide) (fun b23 => ?_) (fun b23 => ?_)
    · skip
      refine cv_aload_n C (pc' := 35) rfl (D 19 (34, .aload_n 0, 1) rfl) rfl (j := 0) rfl ?_
      refine cv_iconst C (pc' := 36) rfl (D 20 (35, .iconst 4, 1) rfl) (v := nI 4) (by decide) ?_
      refine cv_callV C (pc' := 39) rfl (k0 := 0) (ci := 6) (As := [.int (nI 4)]) (rest := []) (idx := 225) (np := 1) (kX6_leave 4 σ) (by decide) rfl rfl rfl (by decide +kernel) rfl wmX6_225 wi_yX6_leave ws_yX6_leave wn_X6 wc_yX6_leave (by decide) (by decide) (D 21 (36, .invokevirtual 225, 3) rfl) (Nat.le_of_ble_eq_true rfl) rfl (fun w36 u36 h36 => ?_)
      rw [h36.1, h36.2, hTr]
      show cv_At X _ _ (cv_u σ 0 4 (cv_lv 4 tr)) 39 _ []
      refine cv_iload_n C (pc' := 40) rfl (D 22 (39, .iload_n 1, 1) rfl) rfl (j := 1) rfl ?_
      exact cv_iret C Rt rfl (D 23 (40, .ireturn, 1) rfl) ⟨congrArg (fun z => some (Value.int z)) (by unfold cv_a_mark; rw [if_pos b5, cv_nt, nI_clamp (by omega), if_neg b23]; try rfl), by unfold cv_t_mark; rw [if_pos b5, cv_nt, nI_clamp (by omega), if_neg b23]; exact cv_RC_t _ hR⟩
    · skip
      refine cv_aload_n C (pc' := 27) rfl (D 14 (26, .aload_n 0, 1) rfl) rfl (j := 0) rfl ?_
      refine cv_iconst C (pc' := 28) rfl (D 15 (27, .iconst 5, 1) rfl) (v := nI 5) (by decide) ?_
      refine cv_callV C (pc' := 31) rfl (k0 := 0) (ci := 6) (As := [.int (nI 5)]) (rest := []) (idx := 225) (np := 1) (kX6_leave 5 σ) (by decide) rfl rfl rfl (by decide +kernel) rfl wmX6_225 wi_yX6_leave ws_yX6_leave wn_X6 wc_yX6_leave (by decide) (by decide) (D 16 (28, .invokevirtual 225, 3) rfl) (Nat.le_of_ble_eq_true rfl) rfl (fun w28 u28 h28 => ?_)
      rw [h28.1, h28.2, hTr]
      show cv_At X _ _ (cv_u σ 0 4 (cv_lv 5 tr)) 31 _ []
      refine cv_bipush C (pc' := 33) rfl (D 17 (31, .bipush 80, 2) rfl) (v := nI 80) (by decide) ?_
      exact cv_iret C Rt rfl (D 18 (33, .ireturn, 1) rfl) ⟨congrArg (fun z => some (Value.int z)) (by unfold cv_a_mark; rw [if_pos b5, cv_nt, nI_clamp (by omega), if_pos b23]; try rfl), by unfold cv_t_mark; rw [if_pos b5, cv_nt, nI_clamp (by omega), if_pos b23]; exact cv_RC_t _ hR⟩
  · skip
    refine cv_iconst C (pc' := 9) rfl (D 4 (8, .iconst (-1), 1) rfl) (v := -1) (by decide) ?_
    exact cv_iret C Rt rfl (D 5 (9, .ireturn, 1) rfl) ⟨congrArg (fun z => some (Value.int z)) (by unfold cv_a_mark; rw [if_neg (by simp [b5])]), by unfold cv_t_mark; rw [if_neg (by simp [b5])]; exact hR⟩

set_option maxHeartbeats 4000000 in
set_option maxRecDepth 100000 in
theorem pX6_as (tr : Int32) (ft : Nat) (sl : Nat → Option (Nat × Nat)) (sc : Nat → Nat → Int32) (L : cv_L) (rc : Nat) (rd : Nat → Nat) (rn : Nat → Option Nat) (x y : Int32) (σ : cv_St) (hR : cv_RC tr ft sl sc L rc rd rn σ) (hB : cv_LB L) (hDB : cv_DB rc rd rn) : cv_Ct yX6_as cX6_as 3 (some .int) 2 0 0 26 cv_shC [.ref 0, .int x, .int y] σ (fun v u => v = some (.int (cv_a_as L x y)) ∧ cv_RC tr (cv_f_as L x y) sl sc L rc rd rn u) := by
  refine cv_enter (own := RX6) (by decide) rfl (Nat.le_of_ble_eq_true rfl) ?_
  intro X a C Rt hRm
  have D := @cv_dec _ _ dkX6_as
  obtain ⟨hTr, hFt, hSh, hL, hSe, hD⟩ := id hR
  have hn6 := hB.1
  have hrc := hDB.1
  show cv_At X _ _ σ 0 [(0, .ref 0), (1, .int x), (2, .int y)] []
  refine cv_aload_n C (pc' := 1) rfl (D 0 (0, .aload_n 0, 1) rfl) rfl (j := 0) rfl ?_
  refine cv_iconst C (pc' := 2) rfl (D 1 (1, .iconst 0, 1) rfl) (v := nI 0) (by decide) ?_
  refine cv_put C (pc' := 5) rfl (k0 := 0) (i := 5) (ci := 6) (by decide) rfl rfl (by decide) rfl iw_X6 tyX6 tyX6_ok nmX6 wfX6_39 rfl rfl rfl (D 2 (2, .putfield 39, 3) rfl) ?_
  refine cv_aload_n C (pc' := 6) rfl (D 3 (5, .aload_n 0, 1) rfl) rfl (j := 0) rfl ?_
  refine cv_iload_n C (pc' := 7) rfl (D 4 (6, .iload_n 1, 1) rfl) rfl (j := 1) rfl ?_
  refine cv_callV C (pc' := 10) rfl (k0 := 0) (ci := 6) (As := [.int x]) (rest := []) (idx := 81) (np := 1) (kX6_isPass x L (cv_u σ 0 5 (nI 0)) (cv_LC_0 hL hB)) (by decide) rfl rfl rfl (by decide +kernel) rfl wmX6_81 wi_yX6_isPass ws_yX6_isPass wn_X6 wc_yX6_isPass (by decide) (by decide) (D 5 (7, .invokevirtual 81, 3) rfl) (Nat.le_of_ble_eq_true rfl) rfl (fun w9 u9 h9 => ?_)
  rw [h9.1, h9.2]
  show cv_At X _ _ (cv_u σ 0 5 (nI 0)) 10 _ [.int (cv_b (cv_in x (L 7 0)))]
  refine cv_if_neB C (pc' := 13) rfl (tgt := 15) (D 6 (10, .ifCond .ne 5, 3) rfl) (by decide) (fun b10 => ?_) (fun b10 => ?_)
  · skip
    refine cv_iload_n C (pc' := 16) rfl (D 9 (15, .iload_n 2, 1) rfl) rfl (j := 2) rfl ?_
    refine cv_iconst C (pc' := 17) rfl (D 10 (16, .iconst 3, 1) rfl) (v := nI 3) (by decide) ?_
    refine cv_callS C (pc' := 20) rfl (As := [.int y, .int (nI 3)]) (rest := []) (idx := 111) (np := 2) (kX6_isBelow y 3 (cv_u σ 0 5 (nI 0))) (by decide +kernel) rfl wmX6_111 wt_yX6_isBelow wn_X6 wc_yX6_isBelow (by decide) (by decide) (D 11 (17, .invokestatic 111, 3) rfl) (Nat.le_of_ble_eq_true rfl) rfl (fun w9 u9 h9 => ?_)
    rw [h9.1, h9.2]
    show cv_At X _ _ (cv_u σ 0 5 (nI 0)) 20 _ [.int (cv_b (cv_in y 3))]
    refine cv_if_neB C (pc' := 23) rfl (tgt := 26) (D 12 (20, .ifCond .ne 6, 3) rfl) (by decide) (fun b20 => ?_) (fun b20 => ?_)
    · skip
      obtain ⟨p, hp, rfl⟩ := cv_in_of b10 (by omega)
      obtain ⟨w, hw, rfl⟩ := cv_in_of b20 (by omega)
      have hp6 : p < 6 := by omega
      have hk2 := (hB.2.1 p hp).1
      refine cv_aload_n C (pc' := 27) rfl (D 15 (26, .aload_n 0, 1) rfl) rfl (j := 0) rfl ?_
      refine cv_get C (pc' := 30) rfl (k0 := 0) (i := 1) (ci := 6) (by decide) rfl rfl (by decide) (o := some 10) rfl iw_X6 wfX6_21 (D 16 (27, .getfield 21, 3) rfl) rfl ?_
      refine cv_get C (pc' := 33) rfl (k0 := 10) (i := 0) (ci := 0) (by decide) rfl rfl (by decide) (o := some 11) rfl iw_X0 wfX6_84 (D 17 (30, .getfield 84, 3) rfl) rfl ?_
      refine cv_iload_n C (pc' := 34) rfl (D 18 (33, .iload_n 1, 1) rfl) rfl (j := 1) rfl ?_
      refine cv_aald C (pc' := 35) rfl (k0 := 11) (j := p) (r := 12 + p) (by decide) rfl rfl rfl (cv_ix_p hp6) (by decide) (D 19 (34, .aaload, 1) rfl) ?_
      refine cv_get C (pc' := 38) rfl (k0 := 12 + p) (i := 0) (ci := 1) (cv_lt_p hp6) (cv_shC_p hp6) rfl (by decide) (o := none) rfl iw_X1 wfX6_88 (D 20 (35, .getfield 88, 3) rfl) (v := .int (nI (L 0 p))) (congrArg Value.int ((congrFun (cv_u_c (by omega)) _).trans (hL.2.2.2 p hp 0 (by decide)))) ?_
      refine cv_iload_n C (pc' := 39) rfl (D 21 (38, .iload_n 2, 1) rfl) rfl (j := 2) rfl ?_
      refine cv_icmp_geN C (pc' := 42) rfl (by omega) (by omega) (tgt := 50) (D 22 (39, .if_icmp .ge 11, 3) rfl) (by decide) (fun b39 => ?_) (fun b39 => ?_)
      · skip
        refine cv_iconst C (pc' := 51) rfl (D 27 (50, .iconst 1, 1) rfl) (v := nI 1) (by decide) ?_
        exact cv_iret C Rt rfl (D 28 (51, .ireturn, 1) rfl) ⟨congrArg (fun z => some (Value.int z)) (by unfold cv_a_as; rw [if_pos b10, if_pos b20, cv_nt, nI_clamp (by omega), cv_nt, nI_clamp (by omega), if_pos b39]; rfl), by unfold cv_f_as; rw [if_neg (fun h => by have := h.2.2; rw [cv_nt, nI_clamp (by omega), cv_nt, nI_clamp (by omega)] at this; omega)]; exact cv_RC_f _ hR⟩
      · skip
        refine cv_aload_n C (pc' := 43) rfl (D 23 (42, .aload_n 0, 1) rfl) rfl (j := 0) rfl ?_
        refine cv_iconst C (pc' := 44) rfl (D 24 (43, .iconst 2, 1) rfl) (v := nI 2) (by decide) ?_
        refine cv_callV C (pc' := 47) rfl (k0 := 0) (ci := 6) (As := [.int (nI 2)]) (rest := []) (idx := 54) (np := 1) (kX6_failed 2 (cv_u σ 0 5 (nI 0))) (by decide) rfl rfl rfl (by decide +kernel) rfl wmX6_54 wi_yX6_failed ws_yX6_failed wn_X6 wc_yX6_failed (by decide) (by decide) (D 25 (44, .invokevirtual 54, 3) rfl) (Nat.le_of_ble_eq_true rfl) rfl (fun w44 u44 h44 => ?_)
        rw [h44.1, h44.2, cv_uu]
        show cv_At X _ _ (cv_u σ 0 5 (nI 2)) 47 _ [.int (-10 - nI 2)]
        refine cv_goto C (tgt := 51) (D 26 (47, .goto 4, 3) rfl) (by decide) ?_
        exact cv_iret C Rt rfl (D 28 (51, .ireturn, 1) rfl) ⟨congrArg (fun z => some (Value.int z)) (by unfold cv_a_as; rw [if_pos b10, if_pos b20, cv_nt, nI_clamp (by omega), cv_nt, nI_clamp (by omega), if_neg (by omega)]; decide), by unfold cv_f_as; rw [if_pos ⟨b10, b20, by rw [cv_nt, nI_clamp (by omega), cv_nt, nI_clamp (by omega)]; omega⟩]; exact cv_RC_f _ hR⟩
    · skip
      refine cv_bipush C (pc' := 25) rfl (D 13 (23, .bipush (-2), 2) rfl) (v := -2) (by decide) ?_
      exact cv_iret C Rt rfl (D 14 (25, .ireturn, 1) rfl) ⟨congrArg (fun z => some (Value.int z)) (by unfold cv_a_as; rw [if_pos b10, if_neg (by simp [b20])]), by unfold cv_f_as; rw [if_neg (by simp [b20])]; exact cv_RC_f _ hR⟩
  · skip
    refine cv_iconst C (pc' := 14) rfl (D 7 (13, .iconst (-1), 1) rfl) (v := -1) (by decide) ?_
    exact cv_iret C Rt rfl (D 8 (14, .ireturn, 1) rfl) ⟨congrArg (fun z => some (Value.int z)) (by unfold cv_a_as; rw [if_neg (by simp [b10])]), by unfold cv_f_as; rw [if_neg (by simp [b10])]; exact cv_RC_f _ hR⟩

def cv_bcx (x : Int32) : Int32 := (((((((x - (((x.toUInt32 >>> ((nI 1).toUInt32 &&& Int32.toUInt32 31)).toInt32) &&& 1431655765)) &&& 858993459) + ((((x - (((x.toUInt32 >>> ((nI 1).toUInt32 &&& Int32.toUInt32 31)).toInt32) &&& 1431655765)).toUInt32 >>> ((nI 2).toUInt32 &&& Int32.toUInt32 31)).toInt32) &&& 858993459)) + (((((x - (((x.toUInt32 >>> ((nI 1).toUInt32 &&& Int32.toUInt32 31)).toInt32) &&& 1431655765)) &&& 858993459) + ((((x - (((x.toUInt32 >>> ((nI 1).toUInt32 &&& Int32.toUInt32 31)).toInt32) &&& 1431655765)).toUInt32 >>> ((nI 2).toUInt32 &&& Int32.toUInt32 31)).toInt32) &&& 858993459)).toUInt32 >>> ((nI 4).toUInt32 &&& Int32.toUInt32 31)).toInt32)) &&& 252645135) + (((((((x - (((x.toUInt32 >>> ((nI 1).toUInt32 &&& Int32.toUInt32 31)).toInt32) &&& 1431655765)) &&& 858993459) + ((((x - (((x.toUInt32 >>> ((nI 1).toUInt32 &&& Int32.toUInt32 31)).toInt32) &&& 1431655765)).toUInt32 >>> ((nI 2).toUInt32 &&& Int32.toUInt32 31)).toInt32) &&& 858993459)) + (((((x - (((x.toUInt32 >>> ((nI 1).toUInt32 &&& Int32.toUInt32 31)).toInt32) &&& 1431655765)) &&& 858993459) + ((((x - (((x.toUInt32 >>> ((nI 1).toUInt32 &&& Int32.toUInt32 31)).toInt32) &&& 1431655765)).toUInt32 >>> ((nI 2).toUInt32 &&& Int32.toUInt32 31)).toInt32) &&& 858993459)).toUInt32 >>> ((nI 4).toUInt32 &&& Int32.toUInt32 31)).toInt32)) &&& 252645135).toUInt32 >>> ((nI 8).toUInt32 &&& Int32.toUInt32 31)).toInt32)) + ((((((((x - (((x.toUInt32 >>> ((nI 1).toUInt32 &&& Int32.toUInt32 31)).toInt32) &&& 1431655765)) &&& 858993459) + ((((x - (((x.toUInt32 >>> ((nI 1).toUInt32 &&& Int32.toUInt32 31)).toInt32) &&& 1431655765)).toUInt32 >>> ((nI 2).toUInt32 &&& Int32.toUInt32 31)).toInt32) &&& 858993459)) + (((((x - (((x.toUInt32 >>> ((nI 1).toUInt32 &&& Int32.toUInt32 31)).toInt32) &&& 1431655765)) &&& 858993459) + ((((x - (((x.toUInt32 >>> ((nI 1).toUInt32 &&& Int32.toUInt32 31)).toInt32) &&& 1431655765)).toUInt32 >>> ((nI 2).toUInt32 &&& Int32.toUInt32 31)).toInt32) &&& 858993459)).toUInt32 >>> ((nI 4).toUInt32 &&& Int32.toUInt32 31)).toInt32)) &&& 252645135) + (((((((x - (((x.toUInt32 >>> ((nI 1).toUInt32 &&& Int32.toUInt32 31)).toInt32) &&& 1431655765)) &&& 858993459) + ((((x - (((x.toUInt32 >>> ((nI 1).toUInt32 &&& Int32.toUInt32 31)).toInt32) &&& 1431655765)).toUInt32 >>> ((nI 2).toUInt32 &&& Int32.toUInt32 31)).toInt32) &&& 858993459)) + (((((x - (((x.toUInt32 >>> ((nI 1).toUInt32 &&& Int32.toUInt32 31)).toInt32) &&& 1431655765)) &&& 858993459) + ((((x - (((x.toUInt32 >>> ((nI 1).toUInt32 &&& Int32.toUInt32 31)).toInt32) &&& 1431655765)).toUInt32 >>> ((nI 2).toUInt32 &&& Int32.toUInt32 31)).toInt32) &&& 858993459)).toUInt32 >>> ((nI 4).toUInt32 &&& Int32.toUInt32 31)).toInt32)) &&& 252645135).toUInt32 >>> ((nI 8).toUInt32 &&& Int32.toUInt32 31)).toInt32)).toUInt32 >>> ((nI 16).toUInt32 &&& Int32.toUInt32 31)).toInt32)) &&& (nI 63)
set_option maxHeartbeats 4000000 in
set_option maxRecDepth 100000 in
theorem kJ6_bitCount {n : Nat} {sh : Nat → cv_Sh} (x : Int32) (σ : cv_St)  : cv_Ct yJ6_bitCount_0f7a4 cJ6_bitCount_0f7a4 1 (some .int) 0 0 0 n sh [.int x] σ (cv_pu (.int (cv_bcx x)) σ) := by
  refine cv_enter (own := RJ6) (by decide) rfl (Nat.le_of_ble_eq_true rfl) ?_
  intro X a C Rt hRm
  have D := @cv_dec _ _ dkJ6_bitCount_0f7a4
  show cv_At X _ _ σ 0 [(0, .int x)] []
  refine cv_iload_n C (pc' := 1) rfl (D 0 (0, .iload_n 0, 1) rfl) rfl (j := 0) rfl ?_
  refine cv_iload_n C (pc' := 2) rfl (D 1 (1, .iload_n 0, 1) rfl) rfl (j := 0) rfl ?_
  refine cv_iconst C (pc' := 3) rfl (D 2 (2, .iconst 1, 1) rfl) (v := nI 1) (by decide) ?_
  refine cv_iushr C (pc' := 4) rfl (D 3 (3, .iushr, 1) rfl) rfl ?_
  refine cv_ldcw C (pc' := 7) rfl wjJ6_265 (D 4 (4, .ldc_w 265, 3) rfl) ?_
  refine cv_iand C (pc' := 8) rfl (D 5 (7, .iand, 1) rfl) ?_
  refine cv_isub C (pc' := 9) rfl (D 6 (8, .isub, 1) rfl) ?_
  refine cv_istore_n C (pc' := 10) rfl (D 7 (9, .istore_n 0, 1) rfl) rfl (by decide) (lv' := [(0, .int (x - (((x.toUInt32 >>> ((nI 1).toUInt32 &&& Int32.toUInt32 31)).toInt32) &&& 1431655765)))]) rfl ?_
  refine cv_iload_n C (pc' := 11) rfl (D 8 (10, .iload_n 0, 1) rfl) rfl (j := 0) rfl ?_
  refine cv_ldcw C (pc' := 14) rfl wjJ6_266 (D 9 (11, .ldc_w 266, 3) rfl) ?_
  refine cv_iand C (pc' := 15) rfl (D 10 (14, .iand, 1) rfl) ?_
  refine cv_iload_n C (pc' := 16) rfl (D 11 (15, .iload_n 0, 1) rfl) rfl (j := 0) rfl ?_
  refine cv_iconst C (pc' := 17) rfl (D 12 (16, .iconst 2, 1) rfl) (v := nI 2) (by decide) ?_
  refine cv_iushr C (pc' := 18) rfl (D 13 (17, .iushr, 1) rfl) rfl ?_
  refine cv_ldcw C (pc' := 21) rfl wjJ6_266 (D 14 (18, .ldc_w 266, 3) rfl) ?_
  refine cv_iand C (pc' := 22) rfl (D 15 (21, .iand, 1) rfl) ?_
  refine cv_iadd C (pc' := 23) rfl (D 16 (22, .iadd, 1) rfl) ?_
  refine cv_istore_n C (pc' := 24) rfl (D 17 (23, .istore_n 0, 1) rfl) rfl (by decide) (lv' := [(0, .int (((x - (((x.toUInt32 >>> ((nI 1).toUInt32 &&& Int32.toUInt32 31)).toInt32) &&& 1431655765)) &&& 858993459) + ((((x - (((x.toUInt32 >>> ((nI 1).toUInt32 &&& Int32.toUInt32 31)).toInt32) &&& 1431655765)).toUInt32 >>> ((nI 2).toUInt32 &&& Int32.toUInt32 31)).toInt32) &&& 858993459)))]) rfl ?_
  refine cv_iload_n C (pc' := 25) rfl (D 18 (24, .iload_n 0, 1) rfl) rfl (j := 0) rfl ?_
  refine cv_iload_n C (pc' := 26) rfl (D 19 (25, .iload_n 0, 1) rfl) rfl (j := 0) rfl ?_
  refine cv_iconst C (pc' := 27) rfl (D 20 (26, .iconst 4, 1) rfl) (v := nI 4) (by decide) ?_
  refine cv_iushr C (pc' := 28) rfl (D 21 (27, .iushr, 1) rfl) rfl ?_
  refine cv_iadd C (pc' := 29) rfl (D 22 (28, .iadd, 1) rfl) ?_
  refine cv_ldcw C (pc' := 32) rfl wjJ6_267 (D 23 (29, .ldc_w 267, 3) rfl) ?_
  refine cv_iand C (pc' := 33) rfl (D 24 (32, .iand, 1) rfl) ?_
  refine cv_istore_n C (pc' := 34) rfl (D 25 (33, .istore_n 0, 1) rfl) rfl (by decide) (lv' := [(0, .int (((((x - (((x.toUInt32 >>> ((nI 1).toUInt32 &&& Int32.toUInt32 31)).toInt32) &&& 1431655765)) &&& 858993459) + ((((x - (((x.toUInt32 >>> ((nI 1).toUInt32 &&& Int32.toUInt32 31)).toInt32) &&& 1431655765)).toUInt32 >>> ((nI 2).toUInt32 &&& Int32.toUInt32 31)).toInt32) &&& 858993459)) + (((((x - (((x.toUInt32 >>> ((nI 1).toUInt32 &&& Int32.toUInt32 31)).toInt32) &&& 1431655765)) &&& 858993459) + ((((x - (((x.toUInt32 >>> ((nI 1).toUInt32 &&& Int32.toUInt32 31)).toInt32) &&& 1431655765)).toUInt32 >>> ((nI 2).toUInt32 &&& Int32.toUInt32 31)).toInt32) &&& 858993459)).toUInt32 >>> ((nI 4).toUInt32 &&& Int32.toUInt32 31)).toInt32)) &&& 252645135))]) rfl ?_
  refine cv_iload_n C (pc' := 35) rfl (D 26 (34, .iload_n 0, 1) rfl) rfl (j := 0) rfl ?_
  refine cv_iload_n C (pc' := 36) rfl (D 27 (35, .iload_n 0, 1) rfl) rfl (j := 0) rfl ?_
  refine cv_bipush C (pc' := 38) rfl (D 28 (36, .bipush 8, 2) rfl) (v := nI 8) (by decide) ?_
  refine cv_iushr C (pc' := 39) rfl (D 29 (38, .iushr, 1) rfl) rfl ?_
  refine cv_iadd C (pc' := 40) rfl (D 30 (39, .iadd, 1) rfl) ?_
  refine cv_istore_n C (pc' := 41) rfl (D 31 (40, .istore_n 0, 1) rfl) rfl (by decide) (lv' := [(0, .int ((((((x - (((x.toUInt32 >>> ((nI 1).toUInt32 &&& Int32.toUInt32 31)).toInt32) &&& 1431655765)) &&& 858993459) + ((((x - (((x.toUInt32 >>> ((nI 1).toUInt32 &&& Int32.toUInt32 31)).toInt32) &&& 1431655765)).toUInt32 >>> ((nI 2).toUInt32 &&& Int32.toUInt32 31)).toInt32) &&& 858993459)) + (((((x - (((x.toUInt32 >>> ((nI 1).toUInt32 &&& Int32.toUInt32 31)).toInt32) &&& 1431655765)) &&& 858993459) + ((((x - (((x.toUInt32 >>> ((nI 1).toUInt32 &&& Int32.toUInt32 31)).toInt32) &&& 1431655765)).toUInt32 >>> ((nI 2).toUInt32 &&& Int32.toUInt32 31)).toInt32) &&& 858993459)).toUInt32 >>> ((nI 4).toUInt32 &&& Int32.toUInt32 31)).toInt32)) &&& 252645135) + (((((((x - (((x.toUInt32 >>> ((nI 1).toUInt32 &&& Int32.toUInt32 31)).toInt32) &&& 1431655765)) &&& 858993459) + ((((x - (((x.toUInt32 >>> ((nI 1).toUInt32 &&& Int32.toUInt32 31)).toInt32) &&& 1431655765)).toUInt32 >>> ((nI 2).toUInt32 &&& Int32.toUInt32 31)).toInt32) &&& 858993459)) + (((((x - (((x.toUInt32 >>> ((nI 1).toUInt32 &&& Int32.toUInt32 31)).toInt32) &&& 1431655765)) &&& 858993459) + ((((x - (((x.toUInt32 >>> ((nI 1).toUInt32 &&& Int32.toUInt32 31)).toInt32) &&& 1431655765)).toUInt32 >>> ((nI 2).toUInt32 &&& Int32.toUInt32 31)).toInt32) &&& 858993459)).toUInt32 >>> ((nI 4).toUInt32 &&& Int32.toUInt32 31)).toInt32)) &&& 252645135).toUInt32 >>> ((nI 8).toUInt32 &&& Int32.toUInt32 31)).toInt32)))]) rfl ?_
  refine cv_iload_n C (pc' := 42) rfl (D 32 (41, .iload_n 0, 1) rfl) rfl (j := 0) rfl ?_
  refine cv_iload_n C (pc' := 43) rfl (D 33 (42, .iload_n 0, 1) rfl) rfl (j := 0) rfl ?_
  refine cv_bipush C (pc' := 45) rfl (D 34 (43, .bipush 16, 2) rfl) (v := nI 16) (by decide) ?_
  refine cv_iushr C (pc' := 46) rfl (D 35 (45, .iushr, 1) rfl) rfl ?_
  refine cv_iadd C (pc' := 47) rfl (D 36 (46, .iadd, 1) rfl) ?_
  refine cv_istore_n C (pc' := 48) rfl (D 37 (47, .istore_n 0, 1) rfl) rfl (by decide) (lv' := [(0, .int (((((((x - (((x.toUInt32 >>> ((nI 1).toUInt32 &&& Int32.toUInt32 31)).toInt32) &&& 1431655765)) &&& 858993459) + ((((x - (((x.toUInt32 >>> ((nI 1).toUInt32 &&& Int32.toUInt32 31)).toInt32) &&& 1431655765)).toUInt32 >>> ((nI 2).toUInt32 &&& Int32.toUInt32 31)).toInt32) &&& 858993459)) + (((((x - (((x.toUInt32 >>> ((nI 1).toUInt32 &&& Int32.toUInt32 31)).toInt32) &&& 1431655765)) &&& 858993459) + ((((x - (((x.toUInt32 >>> ((nI 1).toUInt32 &&& Int32.toUInt32 31)).toInt32) &&& 1431655765)).toUInt32 >>> ((nI 2).toUInt32 &&& Int32.toUInt32 31)).toInt32) &&& 858993459)).toUInt32 >>> ((nI 4).toUInt32 &&& Int32.toUInt32 31)).toInt32)) &&& 252645135) + (((((((x - (((x.toUInt32 >>> ((nI 1).toUInt32 &&& Int32.toUInt32 31)).toInt32) &&& 1431655765)) &&& 858993459) + ((((x - (((x.toUInt32 >>> ((nI 1).toUInt32 &&& Int32.toUInt32 31)).toInt32) &&& 1431655765)).toUInt32 >>> ((nI 2).toUInt32 &&& Int32.toUInt32 31)).toInt32) &&& 858993459)) + (((((x - (((x.toUInt32 >>> ((nI 1).toUInt32 &&& Int32.toUInt32 31)).toInt32) &&& 1431655765)) &&& 858993459) + ((((x - (((x.toUInt32 >>> ((nI 1).toUInt32 &&& Int32.toUInt32 31)).toInt32) &&& 1431655765)).toUInt32 >>> ((nI 2).toUInt32 &&& Int32.toUInt32 31)).toInt32) &&& 858993459)).toUInt32 >>> ((nI 4).toUInt32 &&& Int32.toUInt32 31)).toInt32)) &&& 252645135).toUInt32 >>> ((nI 8).toUInt32 &&& Int32.toUInt32 31)).toInt32)) + ((((((((x - (((x.toUInt32 >>> ((nI 1).toUInt32 &&& Int32.toUInt32 31)).toInt32) &&& 1431655765)) &&& 858993459) + ((((x - (((x.toUInt32 >>> ((nI 1).toUInt32 &&& Int32.toUInt32 31)).toInt32) &&& 1431655765)).toUInt32 >>> ((nI 2).toUInt32 &&& Int32.toUInt32 31)).toInt32) &&& 858993459)) + (((((x - (((x.toUInt32 >>> ((nI 1).toUInt32 &&& Int32.toUInt32 31)).toInt32) &&& 1431655765)) &&& 858993459) + ((((x - (((x.toUInt32 >>> ((nI 1).toUInt32 &&& Int32.toUInt32 31)).toInt32) &&& 1431655765)).toUInt32 >>> ((nI 2).toUInt32 &&& Int32.toUInt32 31)).toInt32) &&& 858993459)).toUInt32 >>> ((nI 4).toUInt32 &&& Int32.toUInt32 31)).toInt32)) &&& 252645135) + (((((((x - (((x.toUInt32 >>> ((nI 1).toUInt32 &&& Int32.toUInt32 31)).toInt32) &&& 1431655765)) &&& 858993459) + ((((x - (((x.toUInt32 >>> ((nI 1).toUInt32 &&& Int32.toUInt32 31)).toInt32) &&& 1431655765)).toUInt32 >>> ((nI 2).toUInt32 &&& Int32.toUInt32 31)).toInt32) &&& 858993459)) + (((((x - (((x.toUInt32 >>> ((nI 1).toUInt32 &&& Int32.toUInt32 31)).toInt32) &&& 1431655765)) &&& 858993459) + ((((x - (((x.toUInt32 >>> ((nI 1).toUInt32 &&& Int32.toUInt32 31)).toInt32) &&& 1431655765)).toUInt32 >>> ((nI 2).toUInt32 &&& Int32.toUInt32 31)).toInt32) &&& 858993459)).toUInt32 >>> ((nI 4).toUInt32 &&& Int32.toUInt32 31)).toInt32)) &&& 252645135).toUInt32 >>> ((nI 8).toUInt32 &&& Int32.toUInt32 31)).toInt32)).toUInt32 >>> ((nI 16).toUInt32 &&& Int32.toUInt32 31)).toInt32)))]) rfl ?_
  refine cv_iload_n C (pc' := 49) rfl (D 38 (48, .iload_n 0, 1) rfl) rfl (j := 0) rfl ?_
  refine cv_bipush C (pc' := 51) rfl (D 39 (49, .bipush 63, 2) rfl) (v := nI 63) (by decide) ?_
  refine cv_iand C (pc' := 52) rfl (D 40 (51, .iand, 1) rfl) ?_
  exact cv_iret C Rt rfl (D 41 (52, .ireturn, 1) rfl) ⟨rfl, rfl⟩

theorem cv_bcx8 : ∀ t, t < 256 → cv_bcx (nI t) = nI (cv_pc t) := by decide +kernel
theorem cv_c3 (y : Int32) : y = nI 0 ∨ y = nI 1 ∨ y = nI 2 ∨ (y.toInt < 0 ∨ 2 < y.toInt) := by
  rcases cv_c6 y with h | h | h | h | h | h | h
  · exact Or.inl h
  · exact Or.inr (Or.inl h)
  · exact Or.inr (Or.inr (Or.inl h))
  · exact Or.inr (Or.inr (Or.inr (by subst h; decide)))
  · exact Or.inr (Or.inr (Or.inr (by subst h; decide)))
  · exact Or.inr (Or.inr (Or.inr (by subst h; decide)))
  · exact Or.inr (Or.inr (Or.inr (by omega)))
theorem cv_pc3 {a b c : Nat} (ha : a < 256) : cv_bcx (nI (a &&& b &&& c)) = nI (cv_cnt (fun d => a.testBit d && (b.testBit d && c.testBit d)) 8) := by
  have h : a &&& b &&& c < 256 := Nat.lt_of_le_of_lt (Nat.le_trans Nat.and_le_left Nat.and_le_left) ha
  rw [cv_bcx8 _ h]
  unfold cv_pc
  congr 2
  funext d
  rw [Nat.testBit_and, Nat.testBit_and, Bool.and_assoc]
set_option maxHeartbeats 4000000 in
set_option maxRecDepth 100000 in
theorem pX6_many (tr : Int32) (ft : Nat) (sl : Nat → Option (Nat × Nat)) (sc : Nat → Nat → Int32) (L : cv_L) (rc : Nat) (rd : Nat → Nat) (rn : Nat → Option Nat) (x : Int32) (σ : cv_St) (hR : cv_RC tr ft sl sc L rc rd rn σ) (hB : cv_LB L) (hDB : cv_DB rc rd rn) : cv_Ct yX6_many cX6_many 2 (some .int) 1 0 0 26 cv_shC [.ref 0, .int x] σ (fun v u => v = some (.int (cv_a_many L rc x)) ∧ cv_RC tr ft sl sc L rc rd rn u) := by
  refine cv_enter (own := RX6) (by decide) rfl (Nat.le_of_ble_eq_true rfl) ?_
  intro X a C Rt hRm
  have D := @cv_dec _ _ dkX6_many
  obtain ⟨hTr, hFt, hSh, hL, hSe, hD⟩ := id hR
  have hn6 := hB.1
  have hrc := hDB.1
  show cv_At X _ _ σ 0 [(0, .ref 0), (1, .int x)] []
  refine cv_iload_n C (pc' := 1) rfl (D 0 (0, .iload_n 1, 1) rfl) rfl (j := 1) rfl ?_
  have hx := cv_c3 x
  rcases hx with hx | hx | hx | hx
  · skip
    subst hx
    refine cv_tableIn C (D 1 (1, .tableswitch 76 0 2 #[27, 35, 68], 27) rfl) (tgt := 28) (by decide) (by decide) rfl (by decide) ?_
    refine cv_aload_n C (pc' := 29) rfl (D 2 (28, .aload_n 0, 1) rfl) rfl (j := 0) rfl ?_
    refine cv_get C (pc' := 32) rfl (k0 := 0) (i := 1) (ci := 6) (by decide) rfl rfl (by decide) (o := some 10) rfl iw_X6 wfX6_21 (D 3 (29, .getfield 21, 3) rfl) rfl ?_
    refine cv_get C (pc' := 35) rfl (k0 := 10) (i := 6) (ci := 0) (by decide) rfl rfl (by decide) (o := none) rfl iw_X0 wfX6_78 (D 4 (32, .getfield 78, 3) rfl) (v := .int (nI (L 7 0))) (congrArg Value.int hL.1) ?_
    exact cv_iret C Rt rfl (D 5 (35, .ireturn, 1) rfl) ⟨congrArg (fun z => some (Value.int z)) (by rfl), hR⟩
  · skip
    subst hx
    refine cv_tableIn C (D 1 (1, .tableswitch 76 0 2 #[27, 35, 68], 27) rfl) (tgt := 36) (by decide) (by decide) rfl (by decide) ?_
    refine cv_aload_n C (pc' := 37) rfl (D 6 (36, .aload_n 0, 1) rfl) rfl (j := 0) rfl ?_
    refine cv_get C (pc' := 40) rfl (k0 := 0) (i := 1) (ci := 6) (by decide) rfl rfl (by decide) (o := some 10) rfl iw_X6 wfX6_21 (D 7 (37, .getfield 21, 3) rfl) rfl ?_
    refine cv_get C (pc' := 43) rfl (k0 := 10) (i := 2) (ci := 0) (by decide) rfl rfl (by decide) (o := some 19) rfl iw_X0 wfX6_125 (D 8 (40, .getfield 125, 3) rfl) rfl ?_
    refine cv_iconst C (pc' := 44) rfl (D 9 (43, .iconst 0, 1) rfl) (v := nI 0) (by decide) ?_
    refine cv_iald C (pc' := 45) rfl (k0 := 19) (j := 0) (by decide) rfl rfl (by omega) (by decide) (D 10 (44, .iaload, 1) rfl) (v := nI (L 6 0)) (hL.2.2.1 _ (by omega)) ?_
    refine cv_aload_n C (pc' := 46) rfl (D 11 (45, .aload_n 0, 1) rfl) rfl (j := 0) rfl ?_
    refine cv_get C (pc' := 49) rfl (k0 := 0) (i := 1) (ci := 6) (by decide) rfl rfl (by decide) (o := some 10) rfl iw_X6 wfX6_21 (D 12 (46, .getfield 21, 3) rfl) rfl ?_
    refine cv_get C (pc' := 52) rfl (k0 := 10) (i := 2) (ci := 0) (by decide) rfl rfl (by decide) (o := some 19) rfl iw_X0 wfX6_125 (D 13 (49, .getfield 125, 3) rfl) rfl ?_
    refine cv_iconst C (pc' := 53) rfl (D 14 (52, .iconst 1, 1) rfl) (v := nI 1) (by decide) ?_
    refine cv_iald C (pc' := 54) rfl (k0 := 19) (j := 1) (by decide) rfl rfl (by omega) (by decide) (D 15 (53, .iaload, 1) rfl) (v := nI (L 6 1)) (hL.2.2.1 _ (by omega)) ?_
    refine cv_iandN C (pc' := 55) rfl (D 16 (54, .iand, 1) rfl) ?_
    refine cv_aload_n C (pc' := 56) rfl (D 17 (55, .aload_n 0, 1) rfl) rfl (j := 0) rfl ?_
    refine cv_get C (pc' := 59) rfl (k0 := 0) (i := 1) (ci := 6) (by decide) rfl rfl (by decide) (o := some 10) rfl iw_X6 wfX6_21 (D 18 (56, .getfield 21, 3) rfl) rfl ?_
    refine cv_get C (pc' := 62) rfl (k0 := 10) (i := 2) (ci := 0) (by decide) rfl rfl (by decide) (o := some 19) rfl iw_X0 wfX6_125 (D 19 (59, .getfield 125, 3) rfl) rfl ?_
    refine cv_iconst C (pc' := 63) rfl (D 20 (62, .iconst 2, 1) rfl) (v := nI 2) (by decide) ?_
    refine cv_iald C (pc' := 64) rfl (k0 := 19) (j := 2) (by decide) rfl rfl (by omega) (by decide) (D 21 (63, .iaload, 1) rfl) (v := nI (L 6 2)) (hL.2.2.1 _ (by omega)) ?_
    refine cv_iandN C (pc' := 65) rfl (D 22 (64, .iand, 1) rfl) ?_
    refine cv_callS C (pc' := 68) rfl (As := [.int (nI (((L 6 0) &&& (L 6 1)) &&& (L 6 2)))]) (rest := []) (idx := 187) (np := 1) (kJ6_bitCount (nI (((L 6 0) &&& (L 6 1)) &&& (L 6 2))) σ) (by decide +kernel) rfl wmX6_187 wt_yJ6_bitCount_0f7a4 wn_J6 wc_yJ6_bitCount_0f7a4 (by decide) (by decide) (D 23 (65, .invokestatic 187, 3) rfl) (Nat.le_of_ble_eq_true rfl) rfl (fun w9 u9 h9 => ?_)
    rw [h9.1, h9.2]
    show cv_At X _ _ σ 68 _ [.int (cv_bcx (nI (((L 6 0) &&& (L 6 1)) &&& (L 6 2))))]
    exact cv_iret C Rt rfl (D 24 (68, .ireturn, 1) rfl) ⟨congrArg (fun z => some (Value.int z)) (by unfold cv_a_many; rw [if_neg (by decide), if_pos (by decide)]; exact cv_pc3 (hB.2.2.2 0 (by decide))), hR⟩
  · skip
    subst hx
    refine cv_tableIn C (D 1 (1, .tableswitch 76 0 2 #[27, 35, 68], 27) rfl) (tgt := 69) (by decide) (by decide) rfl (by decide) ?_
    refine cv_aload_n C (pc' := 70) rfl (D 25 (69, .aload_n 0, 1) rfl) rfl (j := 0) rfl ?_
    refine cv_get C (pc' := 73) rfl (k0 := 0) (i := 3) (ci := 6) (by decide) rfl rfl (by decide) (o := some 23) rfl iw_X6 wfX6_35 (D 26 (70, .getfield 35, 3) rfl) rfl ?_
    refine cv_get C (pc' := 76) rfl (k0 := 23) (i := 2) (ci := 2) (by decide) rfl rfl (by decide) (o := none) rfl iw_X2 wfX6_75 (D 27 (73, .getfield 75, 3) rfl) (v := .int (nI rc)) (congrArg Value.int hD.1) ?_
    exact cv_iret C Rt rfl (D 28 (76, .ireturn, 1) rfl) ⟨congrArg (fun z => some (Value.int z)) (by rfl), hR⟩
  · skip
    refine cv_tableOut C (D 1 (1, .tableswitch 76 0 2 #[27, 35, 68], 27) rfl) (tgt := 77) hx (by decide) ?_
    refine cv_bipush C (pc' := 79) rfl (D 29 (77, .bipush (-2), 2) rfl) (v := -2) (by decide) ?_
    exact cv_iret C Rt rfl (D 30 (79, .ireturn, 1) rfl) ⟨congrArg (fun z => some (Value.int z)) (by unfold cv_a_many; rw [if_neg (cv_cn hx 0 (by decide)), if_neg (cv_cn hx 1 (by decide)), if_neg (cv_cn hx 2 (by decide))]), hR⟩

