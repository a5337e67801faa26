set_option maxHeartbeats 4000000 in
set_option maxRecDepth 100000 in
theorem kX6_canWithout (L : cv_L) (rc : Nat) (rd : Nat → Nat) (rn : Nat → Option Nat) (x : Int32) (j w : Nat) (σ : cv_St) (hL : cv_LC L σ) (hB : cv_LB L) (hD : cv_DC rc rd rn σ) (hj : j < 8) (hw : w < 8) : cv_Ct yX6_canWithout cX6_canWithout 4 (some .boolean) 4 0 0 26 cv_shC [.ref 0, .int x, .int (nI j), .int (nI w)] σ (fun v u => v = some (.int (cv_b (cv_can L x j w (L 6 1) (L 6 2)))) ∧ ∀ k, k ≠ 20 → k ≠ 21 → k ≠ 22 → u k = σ k) := by
  refine cv_enter (own := RX6) (by decide) rfl (Nat.le_of_ble_eq_true rfl) ?_
  intro X a C Rt hRm
  have D := @cv_dec _ _ dkX6_canWithout
  have hg1 := hB.2.2.2 1 (by decide)
  have hg2 := hB.2.2.2 2 (by decide)
  show cv_At X _ _ σ 0 [(0, .ref 0), (1, .int x), (2, .int (nI j)), (3, .int (nI w))] []
  refine cv_aload_n C (pc' := 1) rfl (D 0 (0, .aload_n 0, 1) rfl) rfl (j := 0) rfl ?_
  refine cv_get C (pc' := 4) rfl (k0 := 0) (i := 1) (ci := 6) (by decide) rfl rfl (by decide) (o := some 10) rfl iw_X6 wfX6_21 (D 1 (1, .getfield 21, 3) rfl) rfl ?_
  refine cv_iload_n C (pc' := 5) rfl (D 2 (4, .iload_n 1, 1) rfl) rfl (j := 1) rfl ?_
  refine cv_callV C (pc' := 8) rfl (k0 := 10) (ci := 0) (As := [.int x]) (rest := []) (idx := 131) (np := 1) (kX0_chart L x σ hL hB) (by decide) rfl rfl rfl (by decide +kernel) rfl wmX6_131 wi_yX0_chart ws_yX0_chart wn_X0 wc_yX0_chart (by decide) (by decide) (D 3 (5, .invokevirtual 131, 3) rfl) (Nat.le_of_ble_eq_true rfl) rfl (fun w5 u5 h5 => ?_)
  obtain ⟨e5, hCOu5⟩ := h5
  rw [e5]
  have hKu5 : ∀ k, k ≠ 20 → k ≠ 21 → k ≠ 22 → u5 k = σ k := fun k h _ _ => hCOu5.1 k h
  have hLu5 := cv_LC_k hKu5 hL hB
  have hTu5 := cv_TC_of hCOu5
  have hDu5 := cv_DC_k hKu5 hD
  show cv_At X _ _ u5 8 _ []
  refine cv_aload_n C (pc' := 9) rfl (D 4 (8, .aload_n 0, 1) rfl) rfl (j := 0) rfl ?_
  refine cv_get C (pc' := 12) rfl (k0 := 0) (i := 1) (ci := 6) (by decide) rfl rfl (by decide) (o := some 10) rfl iw_X6 wfX6_21 (D 5 (9, .getfield 21, 3) rfl) rfl ?_
  refine cv_iload_n C (pc' := 13) rfl (D 6 (12, .iload_n 3, 1) rfl) rfl (j := 3) rfl ?_
  refine cv_iload_n C (pc' := 14) rfl (D 7 (13, .iload_n 2, 1) rfl) rfl (j := 2) rfl ?_
  refine cv_aload_n C (pc' := 15) rfl (D 8 (14, .aload_n 0, 1) rfl) rfl (j := 0) rfl ?_
  refine cv_get C (pc' := 18) rfl (k0 := 0) (i := 1) (ci := 6) (by decide) rfl rfl (by decide) (o := some 10) rfl iw_X6 wfX6_21 (D 9 (15, .getfield 21, 3) rfl) rfl ?_
  refine cv_get C (pc' := 21) rfl (k0 := 10) (i := 2) (ci := 0) (by decide) rfl rfl (by decide) (o := some 19) rfl iw_X0 wfX6_125 (D 10 (18, .getfield 125, 3) rfl) rfl ?_
  refine cv_iconst C (pc' := 22) rfl (D 11 (21, .iconst 1, 1) rfl) (v := nI 1) (by decide) ?_
  refine cv_iald C (pc' := 23) rfl (k0 := 19) (j := 1) (by decide) rfl rfl (by omega) (by decide) (D 12 (22, .iaload, 1) rfl) (v := nI (L 6 1)) (hLu5.2.2.1 _ (by omega)) ?_
  refine cv_aload_n C (pc' := 24) rfl (D 13 (23, .aload_n 0, 1) rfl) rfl (j := 0) rfl ?_
  refine cv_get C (pc' := 27) rfl (k0 := 0) (i := 1) (ci := 6) (by decide) rfl rfl (by decide) (o := some 10) rfl iw_X6 wfX6_21 (D 14 (24, .getfield 21, 3) rfl) rfl ?_
  refine cv_get C (pc' := 30) rfl (k0 := 10) (i := 2) (ci := 0) (by decide) rfl rfl (by decide) (o := some 19) rfl iw_X0 wfX6_125 (D 15 (27, .getfield 125, 3) rfl) rfl ?_
  refine cv_iconst C (pc' := 31) rfl (D 16 (30, .iconst 2, 1) rfl) (v := nI 2) (by decide) ?_
  refine cv_iald C (pc' := 32) rfl (k0 := 19) (j := 2) (by decide) rfl rfl (by omega) (by decide) (D 17 (31, .iaload, 1) rfl) (v := nI (L 6 2)) (hLu5.2.2.1 _ (by omega)) ?_
  refine cv_callV C (pc' := 35) rfl (k0 := 10) (ci := 0) (As := [.int (nI w), .int (nI j), .int (nI (L 6 1)), .int (nI (L 6 2))]) (rest := []) (idx := 155) (np := 4) (kX0_isDoneBy L (cv_RT L (fun q => decide (nI q = x)) 8) w j (L 6 1) (L 6 2) u5 hLu5 hB hTu5 (by omega) (by omega) (by omega) (by omega)) (by decide) rfl rfl rfl (by decide +kernel) rfl wmX6_155 wi_yX0_isDoneBy ws_yX0_isDoneBy wn_X0 wc_yX0_isDoneBy (by decide) (by decide) (D 18 (32, .invokevirtual 155, 3) rfl) (Nat.le_of_ble_eq_true rfl) rfl (fun w9 u9 h9 => ?_)
  rw [h9.1, h9.2]
  show cv_At X _ _ u5 35 _ [.int (cv_b (cv_can L x j w (L 6 1) (L 6 2)))]
  exact cv_iret C Rt (cv_b_nar _) (D 19 (35, .ireturn, 1) rfl) ⟨rfl, hKu5⟩

set_option maxHeartbeats 4000000 in
set_option maxRecDepth 100000 in
theorem pX6_hangs (tr : Int32) (ft : Nat) (sl : Nat → Option (Nat × Nat)) (sc : Nat → Nat → Int32) (L : cv_L) (rc : Nat) (rd : Nat → Nat) (rn : Nat → Option Nat) (x y : Int32) (σ : cv_St) (hR : cv_RC tr ft sl sc L rc rd rn σ) (hB : cv_LB L) (hDB : cv_DB rc rd rn) : cv_Ct yX6_hangs cX6_hangs 5 (some .int) 5 0 0 26 cv_shC [.ref 0, .int x, .int y] σ (fun v u => v = some (.int (cv_a_hangs L x y)) ∧ cv_RC tr ft sl sc L rc rd rn u) := by
  refine cv_enter (own := RX6) (by decide) rfl (Nat.le_of_ble_eq_true rfl) ?_
  intro X a C Rt hRm
  have D := @cv_dec _ _ dkX6_hangs
  obtain ⟨hTr, hFt, hSh, hL, hSe, hD⟩ := id hR
  have hn6 := hB.1
  have hrc := hDB.1
  show cv_At X _ _ σ 0 [(0, .ref 0), (1, .int x), (2, .int y)] []
  refine cv_iload_n C (pc' := 1) rfl (D 0 (0, .iload_n 1, 1) rfl) rfl (j := 1) rfl ?_
  refine cv_callS C (pc' := 4) rfl (As := [.int x]) (rest := []) (idx := 108) (np := 1) (kX6_isDay x σ) (by decide +kernel) rfl wmX6_108 wt_yX6_isDay wn_X6 wc_yX6_isDay (by decide) (by decide) (D 1 (1, .invokestatic 108, 3) rfl) (Nat.le_of_ble_eq_true rfl) rfl (fun w9 u9 h9 => ?_)
  rw [h9.1, h9.2]
  show cv_At X _ _ σ 4 _ [.int (cv_b (cv_in x 8))]
  refine cv_if_eqB C (pc' := 7) rfl (tgt := 14) (D 2 (4, .ifCond .eq 10, 3) rfl) (by decide) (fun b4 => ?_) (fun b4 => ?_)
  · skip
    refine cv_bipush C (pc' := 16) rfl (D 6 (14, .bipush (-2), 2) rfl) (v := -2) (by decide) ?_
    exact cv_iret C Rt rfl (D 7 (16, .ireturn, 1) rfl) ⟨congrArg (fun z => some (Value.int z)) (by unfold cv_a_hangs cv_day2; rw [if_neg (by simp [b4])]), hR⟩
  · skip
    refine cv_iload_n C (pc' := 8) rfl (D 3 (7, .iload_n 2, 1) rfl) rfl (j := 2) rfl ?_
    refine cv_callS C (pc' := 11) rfl (As := [.int y]) (rest := []) (idx := 108) (np := 1) (kX6_isDay y σ) (by decide +kernel) rfl wmX6_108 wt_yX6_isDay wn_X6 wc_yX6_isDay (by decide) (by decide) (D 4 (8, .invokestatic 108, 3) rfl) (Nat.le_of_ble_eq_true rfl) rfl (fun w9 u9 h9 => ?_)
    rw [h9.1, h9.2]
    show cv_At X _ _ σ 11 _ [.int (cv_b (cv_in y 8))]
    refine cv_if_neB C (pc' := 14) rfl (tgt := 17) (D 5 (11, .ifCond .ne 6, 3) rfl) (by decide) (fun b11 => ?_) (fun b11 => ?_)
    · skip
      obtain ⟨j, hj, rfl⟩ := cv_in_of b4 (by omega)
      obtain ⟨w, hw, rfl⟩ := cv_in_of b11 (by omega)
      refine cv_aload_n C (pc' := 18) rfl (D 8 (17, .aload_n 0, 1) rfl) rfl (j := 0) rfl ?_
      refine cv_get C (pc' := 21) rfl (k0 := 0) (i := 1) (ci := 6) (by decide) rfl rfl (by decide) (o := some 10) rfl iw_X6 wfX6_21 (D 9 (18, .getfield 21, 3) rfl) rfl ?_
      refine cv_get C (pc' := 24) rfl (k0 := 10) (i := 5) (ci := 0) (by decide) rfl rfl (by decide) (o := none) rfl iw_X0 wfX6_115 (D 10 (21, .getfield 115, 3) rfl) (v := .int (cv_b (decide (0 < L 7 0)))) (congrArg Value.int hSe) ?_
      refine cv_if_neB C (pc' := 27) rfl (tgt := 30) (D 11 (24, .ifCond .ne 6, 3) rfl) (by decide) (fun b24 => ?_) (fun b24 => ?_)
      · skip
        refine cv_aload_n C (pc' := 31) rfl (D 14 (30, .aload_n 0, 1) rfl) rfl (j := 0) rfl ?_
        refine cv_iconst C (pc' := 32) rfl (D 15 (31, .iconst (-1), 1) rfl) (v := -1) (by decide) ?_
        refine cv_iload_n C (pc' := 33) rfl (D 16 (32, .iload_n 1, 1) rfl) rfl (j := 1) rfl ?_
        refine cv_iload_n C (pc' := 34) rfl (D 17 (33, .iload_n 2, 1) rfl) rfl (j := 2) rfl ?_
        refine cv_callV C (pc' := 37) rfl (k0 := 0) (ci := 6) (As := [.int (-1), .int (nI j), .int (nI w)]) (rest := []) (idx := 162) (np := 3) (kX6_canWithout L rc rd rn (-1) j w σ hL hB hD (by omega) (by omega)) (by decide) rfl rfl rfl (by decide +kernel) rfl wmX6_162 wi_yX6_canWithout ws_yX6_canWithout wn_X6 wc_yX6_canWithout (by decide) (by decide) (D 18 (34, .invokevirtual 162, 3) rfl) (Nat.le_of_ble_eq_true rfl) rfl (fun w34 u34 h34 => ?_)
        obtain ⟨e34, hK0u34⟩ := h34
        rw [e34]
        have hKu34 := hK0u34
        have hLu34 := cv_LC_k hKu34 hL hB
        have hDu34 := cv_DC_k hKu34 hD
        show cv_At X _ _ u34 37 _ [.int (cv_b (cv_can L (-1) j w (L 6 1) (L 6 2)))]
        refine cv_if_neB C (pc' := 40) rfl (tgt := 42) (D 19 (37, .ifCond .ne 5, 3) rfl) (by decide) (fun b37 => ?_) (fun b37 => ?_)
        · skip
          refine cv_iconst C (pc' := 43) rfl (D 22 (42, .iconst 0, 1) rfl) (v := nI 0) (by decide) ?_
          refine cv_istore_n C (pc' := 44) rfl (D 23 (43, .istore_n 3, 1) rfl) rfl (by decide) (lv' := [(3, .int (nI 0)), (0, .ref 0), (1, .int (nI j)), (2, .int (nI w))]) rfl ?_
          refine cv_iconst C (pc' := 45) rfl (D 24 (44, .iconst 0, 1) rfl) (v := nI 0) (by decide) ?_
          refine cv_istore C (pc' := 47) rfl (D 25 (45, .istore 4, 2) rfl) (by decide) (lv' := [(4, .int (nI 0)), (3, .int (nI 0)), (0, .ref 0), (1, .int (nI j)), (2, .int (nI w))]) rfl ?_
          refine cv_pick [0, 1, 2, 3, 4] (lv' := [(4, .int (nI 0)), (3, .int (nI (cv_sb (fun p => !cv_can L (nI p) j w (L 6 1) (L 6 2)) 0))), (0, .ref 0), (1, .int (nI j)), (2, .int (nI w))]) rfl ?_
          have LP47 : ∀ (r : Nat) (p : Nat) (τ : cv_St), (p + r = L 7 0) → (∀ k, k ≠ 20 → k ≠ 21 → k ≠ 22 → τ k = σ k) → cv_At X (26, cv_shC, 0, 0, a) 5 τ 47 [(4, .int (nI p)), (3, .int (nI (cv_sb (fun p => !cv_can L (nI p) j w (L 6 1) (L 6 2)) p))), (0, .ref 0), (1, .int (nI j)), (2, .int (nI w))] [] := by
            intro r
            induction r with
            | zero =>
              intro p τ hr hKτ
              have hLτ := cv_LC_k hKτ hL hB
              refine cv_iload C (pc' := 49) rfl (D 26 (47, .iload 4, 2) rfl) (j := 0) rfl ?_
              refine cv_aload_n C (pc' := 50) rfl (D 27 (49, .aload_n 0, 1) rfl) rfl (j := 2) rfl ?_
              refine cv_get C (pc' := 53) rfl (k0 := 0) (i := 1) (ci := 6) (by decide) rfl rfl (by decide) (o := some 10) rfl iw_X6 wfX6_21 (D 28 (50, .getfield 21, 3) rfl) rfl ?_
              refine cv_get C (pc' := 56) rfl (k0 := 10) (i := 6) (ci := 0) (by decide) rfl rfl (by decide) (o := none) rfl iw_X0 wfX6_78 (D 29 (53, .getfield 78, 3) rfl) (v := .int (nI (L 7 0))) (congrArg Value.int hLτ.1) ?_
              refine cv_icmp_geN C (pc' := 59) rfl (by omega) (by omega) (tgt := 83) (D 30 (56, .if_icmp .ge 27, 3) rfl) (by decide) (fun b56 => ?_) (fun b56 => ?_)
              · skip
                refine cv_iload_n C (pc' := 84) rfl (D 45 (83, .iload_n 3, 1) rfl) rfl (j := 1) rfl ?_
                exact cv_iret C Rt rfl (D 46 (84, .ireturn, 1) rfl) ⟨congrArg (fun z => some (Value.int z)) (by unfold cv_a_hangs cv_day2; rw [if_pos ⟨b4, b11⟩, if_pos (by simpa using b24)]; simp only [cv_nt, nI_clamp (show j < 2 ^ 31 by omega), nI_clamp (show w < 2 ^ 31 by omega)]; rw [if_pos b37, show p = L 7 0 by omega]), cv_RC_k hKτ hB hR⟩
              · skip
                omega
            | succ r ih47 =>
              intro p τ hr hKτ
              have hLτ := cv_LC_k hKτ hL hB
              have hDτ := cv_DC_k hKτ hD
              refine cv_iload C (pc' := 49) rfl (D 26 (47, .iload 4, 2) rfl) (j := 0) rfl ?_
              refine cv_aload_n C (pc' := 50) rfl (D 27 (49, .aload_n 0, 1) rfl) rfl (j := 2) rfl ?_
              refine cv_get C (pc' := 53) rfl (k0 := 0) (i := 1) (ci := 6) (by decide) rfl rfl (by decide) (o := some 10) rfl iw_X6 wfX6_21 (D 28 (50, .getfield 21, 3) rfl) rfl ?_
              refine cv_get C (pc' := 56) rfl (k0 := 10) (i := 6) (ci := 0) (by decide) rfl rfl (by decide) (o := none) rfl iw_X0 wfX6_78 (D 29 (53, .getfield 78, 3) rfl) (v := .int (nI (L 7 0))) (congrArg Value.int hLτ.1) ?_
              refine cv_icmp_geN C (pc' := 59) rfl (by omega) (by omega) (tgt := 83) (D 30 (56, .if_icmp .ge 27, 3) rfl) (by decide) (fun b56 => ?_) (fun b56 => ?_)
              · skip
                omega
              · skip
                refine cv_aload_n C (pc' := 60) rfl (D 31 (59, .aload_n 0, 1) rfl) rfl (j := 2) rfl ?_
                refine cv_iload C (pc' := 62) rfl (D 32 (60, .iload 4, 2) rfl) (j := 0) rfl ?_
                refine cv_iload_n C (pc' := 63) rfl (D 33 (62, .iload_n 1, 1) rfl) rfl (j := 3) rfl ?_
                refine cv_iload_n C (pc' := 64) rfl (D 34 (63, .iload_n 2, 1) rfl) rfl (j := 4) rfl ?_
                refine cv_callV C (pc' := 67) rfl (k0 := 0) (ci := 6) (As := [.int (nI p), .int (nI j), .int (nI w)]) (rest := []) (idx := 162) (np := 3) (kX6_canWithout L rc rd rn (nI p) j w τ hLτ hB hDτ (by omega) (by omega)) (by decide) rfl rfl rfl (by decide +kernel) rfl wmX6_162 wi_yX6_canWithout ws_yX6_canWithout wn_X6 wc_yX6_canWithout (by decide) (by decide) (D 35 (64, .invokevirtual 162, 3) rfl) (Nat.le_of_ble_eq_true rfl) rfl (fun w64 u64 h64 => ?_)
                obtain ⟨e64, hK0u64⟩ := h64
                rw [e64]
                have hKu64 : ∀ k, k ≠ 20 → k ≠ 21 → k ≠ 22 → u64 k = σ k := fun k h1 h2 h3 => (hK0u64 k h1 h2 h3).trans (hKτ k h1 h2 h3)
                have hLu64 := cv_LC_k hKu64 hL hB
                have hDu64 := cv_DC_k hKu64 hD
                show cv_At X _ _ u64 67 _ [.int (cv_b (cv_can L (nI p) j w (L 6 1) (L 6 2)))]
                refine cv_if_neB C (pc' := 70) rfl (tgt := 77) (D 36 (67, .ifCond .ne 10, 3) rfl) (by decide) (fun b67 => ?_) (fun b67 => ?_)
                · skip
                  refine cv_iincN C (pc' := 80) rfl (D 43 (77, .iinc 4 1, 3) rfl) (j := 0) rfl (by decide) (lv' := [(4, .int (nI (p + 1))), (3, .int (nI (cv_sb (fun p => !cv_can L (nI p) j w (L 6 1) (L 6 2)) p))), (0, .ref 0), (1, .int (nI j)), (2, .int (nI w))]) rfl ?_
                  refine cv_goto C (tgt := 47) (D 44 (80, .goto (-33), 3) rfl) (by decide) ?_
                  have hw9 : cv_sb (fun p => !cv_can L (nI p) j w (L 6 1) (L 6 2)) p = cv_sb (fun p => !cv_can L (nI p) j w (L 6 1) (L 6 2)) (p + 1) := by simp [cv_sb, b67]
                  rw [hw9]
                  exact ih47 (p + 1) u64 (by omega) hKu64
                · skip
                  refine cv_iload_n C (pc' := 71) rfl (D 37 (70, .iload_n 3, 1) rfl) rfl (j := 1) rfl ?_
                  refine cv_iconst C (pc' := 72) rfl (D 38 (71, .iconst 1, 1) rfl) (v := nI 1) (by decide) ?_
                  refine cv_iload C (pc' := 74) rfl (D 39 (72, .iload 4, 2) rfl) (j := 0) rfl ?_
                  refine cv_ishl1 C (pc' := 75) rfl (by omega) (D 40 (74, .ishl, 1) rfl) ?_
                  refine cv_iorN C (pc' := 76) rfl (D 41 (75, .ior, 1) rfl) ?_
                  refine cv_istore_n C (pc' := 77) rfl (D 42 (76, .istore_n 3, 1) rfl) rfl (by decide) (lv' := [(3, .int (nI ((cv_sb (fun p => !cv_can L (nI p) j w (L 6 1) (L 6 2)) p) ||| (2 ^ p)))), (4, .int (nI p)), (0, .ref 0), (1, .int (nI j)), (2, .int (nI w))]) rfl ?_
                  refine cv_iincN C (pc' := 80) rfl (D 43 (77, .iinc 4 1, 3) rfl) (j := 1) rfl (by decide) (lv' := [(4, .int (nI (p + 1))), (3, .int (nI ((cv_sb (fun p => !cv_can L (nI p) j w (L 6 1) (L 6 2)) p) ||| (2 ^ p)))), (0, .ref 0), (1, .int (nI j)), (2, .int (nI w))]) rfl ?_
                  refine cv_goto C (tgt := 47) (D 44 (80, .goto (-33), 3) rfl) (by decide) ?_
                  have hw9 : (cv_sb (fun p => !cv_can L (nI p) j w (L 6 1) (L 6 2)) p) ||| (2 ^ p) = cv_sb (fun p => !cv_can L (nI p) j w (L 6 1) (L 6 2)) (p + 1) := by simp [cv_sb, b67]
                  rw [hw9]
                  exact ih47 (p + 1) u64 (by omega) hKu64
          exact LP47 (L 7 0) 0 u34 (by omega) hKu34
        · skip
          refine cv_iconst C (pc' := 41) rfl (D 20 (40, .iconst 0, 1) rfl) (v := nI 0) (by decide) ?_
          exact cv_iret C Rt rfl (D 21 (41, .ireturn, 1) rfl) ⟨congrArg (fun z => some (Value.int z)) (by unfold cv_a_hangs cv_day2; rw [if_pos ⟨b4, b11⟩, if_pos (by simpa using b24)]; simp only [cv_nt, nI_clamp (show j < 2 ^ 31 by omega), nI_clamp (show w < 2 ^ 31 by omega)]; rw [if_neg (by simp [b37])]; rfl), cv_RC_k hKu34 hB hR⟩
      · skip
        refine cv_bipush C (pc' := 29) rfl (D 12 (27, .bipush (-3), 2) rfl) (v := -3) (by decide) ?_
        exact cv_iret C Rt rfl (D 13 (29, .ireturn, 1) rfl) ⟨congrArg (fun z => some (Value.int z)) (by unfold cv_a_hangs cv_day2; rw [if_pos ⟨b4, b11⟩, if_neg (by simpa using b24)]), hR⟩
    · skip
      refine cv_bipush C (pc' := 16) rfl (D 6 (14, .bipush (-2), 2) rfl) (v := -2) (by decide) ?_
      exact cv_iret C Rt rfl (D 7 (16, .ireturn, 1) rfl) ⟨congrArg (fun z => some (Value.int z)) (by unfold cv_a_hangs cv_day2; rw [if_neg (by simp [b11])]), hR⟩

set_option maxHeartbeats 4000000 in
set_option maxRecDepth 100000 in
theorem pX6_peace (tr : Int32) (ft : Nat) (sl : Nat → Option (Nat × Nat)) (sc : Nat → Nat → Int32) (L : cv_L) (rc : Nat) (rd : Nat → Nat) (rn : Nat → Option Nat) (x y : Int32) (σ : cv_St) (hR : cv_RC tr ft sl sc L rc rd rn σ) (hB : cv_LB L) (hDB : cv_DB rc rd rn) : cv_Ct yX6_peace cX6_peace 3 (some .int) 5 0 0 26 cv_shC [.ref 0, .int x, .int y] σ (fun v u => v = some (.int (cv_a_peace L x y)) ∧ cv_RC tr ft sl sc L rc rd rn u) := by
  refine cv_enter (own := RX6) (by decide) rfl (Nat.le_of_ble_eq_true rfl) ?_
  intro X a C Rt hRm
  have D := @cv_dec _ _ dkX6_peace
  obtain ⟨hTr, hFt, hSh, hL, hSe, hD⟩ := id hR
  have hn6 := hB.1
  have hrc := hDB.1
  show cv_At X _ _ σ 0 [(0, .ref 0), (1, .int x), (2, .int y)] []
  refine cv_iload_n C (pc' := 1) rfl (D 0 (0, .iload_n 1, 1) rfl) rfl (j := 1) rfl ?_
  refine cv_callS C (pc' := 4) rfl (As := [.int x]) (rest := []) (idx := 108) (np := 1) (kX6_isDay x σ) (by decide +kernel) rfl wmX6_108 wt_yX6_isDay wn_X6 wc_yX6_isDay (by decide) (by decide) (D 1 (1, .invokestatic 108, 3) rfl) (Nat.le_of_ble_eq_true rfl) rfl (fun w9 u9 h9 => ?_)
  rw [h9.1, h9.2]
  show cv_At X _ _ σ 4 _ [.int (cv_b (cv_in x 8))]
  refine cv_if_eqB C (pc' := 7) rfl (tgt := 14) (D 2 (4, .ifCond .eq 10, 3) rfl) (by decide) (fun b4 => ?_) (fun b4 => ?_)
  · skip
    refine cv_bipush C (pc' := 16) rfl (D 6 (14, .bipush (-2), 2) rfl) (v := -2) (by decide) ?_
    exact cv_iret C Rt rfl (D 7 (16, .ireturn, 1) rfl) ⟨congrArg (fun z => some (Value.int z)) (by unfold cv_a_peace cv_day2; rw [if_neg (by simp [b4])]), hR⟩
  · skip
    refine cv_iload_n C (pc' := 8) rfl (D 3 (7, .iload_n 2, 1) rfl) rfl (j := 2) rfl ?_
    refine cv_callS C (pc' := 11) rfl (As := [.int y]) (rest := []) (idx := 108) (np := 1) (kX6_isDay y σ) (by decide +kernel) rfl wmX6_108 wt_yX6_isDay wn_X6 wc_yX6_isDay (by decide) (by decide) (D 4 (8, .invokestatic 108, 3) rfl) (Nat.le_of_ble_eq_true rfl) rfl (fun w9 u9 h9 => ?_)
    rw [h9.1, h9.2]
    show cv_At X _ _ σ 11 _ [.int (cv_b (cv_in y 8))]
    refine cv_if_neB C (pc' := 14) rfl (tgt := 17) (D 5 (11, .ifCond .ne 6, 3) rfl) (by decide) (fun b11 => ?_) (fun b11 => ?_)
    · skip
      obtain ⟨j, hj, rfl⟩ := cv_in_of b4 (by omega)
      obtain ⟨w, hw, rfl⟩ := cv_in_of b11 (by omega)
      refine cv_aload_n C (pc' := 18) rfl (D 8 (17, .aload_n 0, 1) rfl) rfl (j := 0) rfl ?_
      refine cv_get C (pc' := 21) rfl (k0 := 0) (i := 1) (ci := 6) (by decide) rfl rfl (by decide) (o := some 10) rfl iw_X6 wfX6_21 (D 9 (18, .getfield 21, 3) rfl) rfl ?_
      refine cv_get C (pc' := 24) rfl (k0 := 10) (i := 5) (ci := 0) (by decide) rfl rfl (by decide) (o := none) rfl iw_X0 wfX6_115 (D 10 (21, .getfield 115, 3) rfl) (v := .int (cv_b (decide (0 < L 7 0)))) (congrArg Value.int hSe) ?_
      refine cv_if_neB C (pc' := 27) rfl (tgt := 30) (D 11 (24, .ifCond .ne 6, 3) rfl) (by decide) (fun b24 => ?_) (fun b24 => ?_)
      · skip
        refine cv_aload_n C (pc' := 31) rfl (D 14 (30, .aload_n 0, 1) rfl) rfl (j := 0) rfl ?_
        refine cv_get C (pc' := 34) rfl (k0 := 0) (i := 1) (ci := 6) (by decide) rfl rfl (by decide) (o := some 10) rfl iw_X6 wfX6_21 (D 15 (31, .getfield 21, 3) rfl) rfl ?_
        refine cv_iconst C (pc' := 35) rfl (D 16 (34, .iconst (-1), 1) rfl) (v := -1) (by decide) ?_
        refine cv_callV C (pc' := 38) rfl (k0 := 10) (ci := 0) (As := [.int (-1)]) (rest := []) (idx := 131) (np := 1) (kX0_chart L (-1) σ hL hB) (by decide) rfl rfl rfl (by decide +kernel) rfl wmX6_131 wi_yX0_chart ws_yX0_chart wn_X0 wc_yX0_chart (by decide) (by decide) (D 17 (35, .invokevirtual 131, 3) rfl) (Nat.le_of_ble_eq_true rfl) rfl (fun w35 u35 h35 => ?_)
        obtain ⟨e35, hCOu35⟩ := h35
        rw [e35]
        have hKu35 : ∀ k, k ≠ 20 → k ≠ 21 → k ≠ 22 → u35 k = σ k := fun k h _ _ => hCOu35.1 k h
        have hLu35 := cv_LC_k hKu35 hL hB
        have hTu35 := cv_TC_of hCOu35
        have hDu35 := cv_DC_k hKu35 hD
        show cv_At X _ _ u35 38 _ []
        refine cv_aload_n C (pc' := 39) rfl (D 18 (38, .aload_n 0, 1) rfl) rfl (j := 0) rfl ?_
        refine cv_get C (pc' := 42) rfl (k0 := 0) (i := 1) (ci := 6) (by decide) rfl rfl (by decide) (o := some 10) rfl iw_X6 wfX6_21 (D 19 (39, .getfield 21, 3) rfl) rfl ?_
        refine cv_iload_n C (pc' := 43) rfl (D 20 (42, .iload_n 2, 1) rfl) rfl (j := 2) rfl ?_
        refine cv_iload_n C (pc' := 44) rfl (D 21 (43, .iload_n 1, 1) rfl) rfl (j := 1) rfl ?_
        refine cv_callV C (pc' := 47) rfl (k0 := 10) (ci := 0) (As := [.int (nI w), .int (nI j)]) (rest := []) (idx := 166) (np := 2) (kX0_daysToPeace L (cv_RT L (fun q => decide (nI q = -1)) 8) w j u35 hLu35 hB hTu35 (by omega) (by omega)) (by decide) rfl rfl rfl (by decide +kernel) rfl wmX6_166 wi_yX0_daysToPeace ws_yX0_daysToPeace wn_X0 wc_yX0_daysToPeace (by decide) (by decide) (D 22 (44, .invokevirtual 166, 3) rfl) (Nat.le_of_ble_eq_true rfl) rfl (fun w9 u9 h9 => ?_)
        rw [h9.1, h9.2]
        show cv_At X _ _ u35 47 _ [.int (cv_o (cv_pe (cv_RT L (fun q => decide (nI q = -1)) 8) (L 6 0) (L 6 1) (L 6 2) j w))]
        exact cv_iret C Rt rfl (D 23 (47, .ireturn, 1) rfl) ⟨congrArg (fun z => some (Value.int z)) (by unfold cv_a_peace cv_day2; rw [if_pos ⟨b4, b11⟩, if_pos (by simpa using b24)]; simp only [cv_nt, nI_clamp (show j < 2 ^ 31 by omega), nI_clamp (show w < 2 ^ 31 by omega)]), cv_RC_k hKu35 hB hR⟩
      · skip
        refine cv_bipush C (pc' := 29) rfl (D 12 (27, .bipush (-3), 2) rfl) (v := -3) (by decide) ?_
        exact cv_iret C Rt rfl (D 13 (29, .ireturn, 1) rfl) ⟨congrArg (fun z => some (Value.int z)) (by unfold cv_a_peace cv_day2; rw [if_pos ⟨b4, b11⟩, if_neg (by simpa using b24)]), hR⟩
    · skip
      refine cv_bipush C (pc' := 16) rfl (D 6 (14, .bipush (-2), 2) rfl) (v := -2) (by decide) ?_
      exact cv_iret C Rt rfl (D 7 (16, .ireturn, 1) rfl) ⟨congrArg (fun z => some (Value.int z)) (by unfold cv_a_peace cv_day2; rw [if_neg (by simp [b11])]), hR⟩

theorem cv_RC_reading {tr : Int32} {ft : Nat} {sl : Nat → Option (Nat × Nat)} {sc : Nat → Nat → Int32} {L : cv_L} {rc : Nat} {rd : Nat → Nat} {rn : Nat → Option Nat} {σ : cv_St} (hB : cv_LB L) (hR : cv_RC tr ft sl sc L rc rd rn σ) (j : Nat) (o : Option Nat) (y : Int32) (hy : y = cv_o o) (z : Int32) (hz : z = nI (rc + 1)) : cv_RC tr ft sl sc L (rc + 1) (fun k => if k = rc then j else rd k) (fun k => if k = rc then o else rn k) (cv_u (cv_u (cv_u σ 24 rc (nI j)) 25 rc y) 23 2 z) := by
  obtain ⟨h1, h2, h3, h4, h5, h6⟩ := hR
  have h9 := hB.1
  subst hy; subst hz
  have e : ∀ k, k < 23 → cv_u (cv_u (cv_u σ 24 rc (nI j)) 25 rc (cv_o o)) 23 2 (nI (rc + 1)) k = σ k := fun k hk => by rw [cv_u_c (by omega), cv_u_c (by omega), cv_u_c (by omega)]
  refine ⟨by rw [e 0 (by decide)]; exact h1, by rw [e 0 (by decide)]; exact h2, fun k hk => by rw [e (2 + k) (by omega), e (6 + k) (by omega)]; exact h3 k hk, ⟨by rw [e 10 (by decide)]; exact h4.1, fun d hd => by rw [e 18 (by decide)]; exact h4.2.1 d hd, fun v hv => by rw [e 19 (by decide)]; exact h4.2.2.1 v hv, fun p hp i hi => by rw [e (12 + p) (by omega)]; exact h4.2.2.2 p hp i hi⟩, by rw [e 10 (by decide)]; exact h5, cv_u_s, fun k hk => ?_⟩
  rw [cv_u_c (by decide), cv_u_c (by decide), cv_u_c (show (25 : Nat) ≠ 23 by decide)]
  by_cases q : k = rc
  · subst q
    dsimp only
    rw [cv_u_s, cv_u_s, if_pos rfl, if_pos rfl]
    exact ⟨rfl, rfl⟩
  · dsimp only
    rw [cv_u_i q, cv_u_i q, if_neg q, if_neg q, cv_u_c (by decide)]
    exact h6.2 k (by omega)
theorem cv_RC_back {tr : Int32} {ft : Nat} {sl : Nat → Option (Nat × Nat)} {sc : Nat → Nat → Int32} {L : cv_L} {rc : Nat} {rd : Nat → Nat} {rn : Nat → Option Nat} {σ : cv_St} (hB : cv_LB L) (hR : cv_RC tr ft sl sc L rc rd rn σ) (m : Nat) (hm : m ≤ rc) : cv_RC tr ft sl sc L m rd rn (cv_u σ 23 2 (nI m)) := by
  obtain ⟨h1, h2, h3, h4, h5, h6⟩ := hR
  have h9 := hB.1
  have e : ∀ k, k ≠ 23 → cv_u σ 23 2 (nI m) k = σ k := fun k hk => cv_u_c hk
  refine ⟨by rw [e 0 (by decide)]; exact h1, by rw [e 0 (by decide)]; exact h2, fun k hk => by rw [e (2 + k) (by omega), e (6 + k) (by omega)]; exact h3 k hk, ⟨by rw [e 10 (by decide)]; exact h4.1, fun d hd => by rw [e 18 (by decide)]; exact h4.2.1 d hd, fun v hv => by rw [e 19 (by decide)]; exact h4.2.2.1 v hv, fun p hp i hi => by rw [e (12 + p) (by omega)]; exact h4.2.2.2 p hp i hi⟩, by rw [e 10 (by decide)]; exact h5, cv_u_s, fun k hk => by rw [e 24 (by decide), e 25 (by decide)]; exact h6.2 k (by omega)⟩
set_option maxHeartbeats 4000000 in
set_option maxRecDepth 100000 in
theorem pX6_reading (tr : Int32) (ft : Nat) (sl : Nat → Option (Nat × Nat)) (sc : Nat → Nat → Int32) (L : cv_L) (rc : Nat) (rd : Nat → Nat) (rn : Nat → Option Nat) (x y : Int32) (σ : cv_St) (hR : cv_RC tr ft sl sc L rc rd rn σ) (hB : cv_LB L) (hDB : cv_DB rc rd rn) : cv_Ct yX6_reading cX6_reading 4 (some .int) 2 0 0 26 cv_shC [.ref 0, .int x, .int y] σ (fun v u => v = some (.int (cv_a_reading L rc x y)) ∧ (if cv_ok_reading L rc x y then cv_RC tr ft sl sc L (rc + 1) (fun k => if k = rc then cv_nt x else rd k) (fun k => if k = rc then cv_on y else rn k) u else cv_RC tr ft sl sc L rc rd rn u)) := by
  refine cv_enter (own := RX6) (by decide) rfl (Nat.le_of_ble_eq_true rfl) ?_
  intro X a C Rt hRm
  have D := @cv_dec _ _ dkX6_reading
  obtain ⟨hTr, hFt, hSh, hL, hSe, hD⟩ := id hR
  have hn6 := hB.1
  have hrc := hDB.1
  show cv_At X _ _ σ 0 [(0, .ref 0), (1, .int x), (2, .int y)] []
  refine cv_iload_n C (pc' := 1) rfl (D 0 (0, .iload_n 1, 1) rfl) rfl (j := 1) rfl ?_
  refine cv_callS C (pc' := 4) rfl (As := [.int x]) (rest := []) (idx := 108) (np := 1) (kX6_isDay x σ) (by decide +kernel) rfl wmX6_108 wt_yX6_isDay wn_X6 wc_yX6_isDay (by decide) (by decide) (D 1 (1, .invokestatic 108, 3) rfl) (Nat.le_of_ble_eq_true rfl) rfl (fun w9 u9 h9 => ?_)
  rw [h9.1, h9.2]
  show cv_At X _ _ σ 4 _ [.int (cv_b (cv_in x 8))]
  refine cv_if_eqB C (pc' := 7) rfl (tgt := 20) (D 2 (4, .ifCond .eq 16, 3) rfl) (by decide) (fun b4 => ?_) (fun b4 => ?_)
  · skip
    refine cv_bipush C (pc' := 22) rfl (D 9 (20, .bipush (-2), 2) rfl) (v := -2) (by decide) ?_
    exact cv_iret C Rt rfl (D 10 (22, .ireturn, 1) rfl) ⟨congrArg (fun z => some (Value.int z)) (by unfold cv_a_reading; rw [if_neg (by simp [b4])]), by rw [if_neg (fun h => by unfold cv_ok_reading at h; rw [b4] at h; cases h.1)]; exact hR⟩
  · skip
    refine cv_iload_n C (pc' := 8) rfl (D 3 (7, .iload_n 2, 1) rfl) rfl (j := 2) rfl ?_
    refine cv_bipush C (pc' := 10) rfl (D 4 (8, .bipush (-9), 2) rfl) (v := -9) (by decide) ?_
    refine cv_icmp_eq C (pc' := 13) rfl (tgt := 23) (D 5 (10, .if_icmp .eq 13, 3) rfl) (by decide) (fun b10 => ?_) (fun b10 => ?_)
    · skip
      obtain ⟨j, hj, rfl⟩ := cv_in_of b4 (by omega)
      refine cv_aload_n C (pc' := 24) rfl (D 11 (23, .aload_n 0, 1) rfl) rfl (j := 0) rfl ?_
      refine cv_get C (pc' := 27) rfl (k0 := 0) (i := 1) (ci := 6) (by decide) rfl rfl (by decide) (o := some 10) rfl iw_X6 wfX6_21 (D 12 (24, .getfield 21, 3) rfl) rfl ?_
      refine cv_get C (pc' := 30) rfl (k0 := 10) (i := 5) (ci := 0) (by decide) rfl rfl (by decide) (o := none) rfl iw_X0 wfX6_115 (D 13 (27, .getfield 115, 3) rfl) (v := .int (cv_b (decide (0 < L 7 0)))) (congrArg Value.int hSe) ?_
      refine cv_if_neB C (pc' := 33) rfl (tgt := 36) (D 14 (30, .ifCond .ne 6, 3) rfl) (by decide) (fun b30 => ?_) (fun b30 => ?_)
      · skip
        refine cv_aload_n C (pc' := 37) rfl (D 17 (36, .aload_n 0, 1) rfl) rfl (j := 0) rfl ?_
        refine cv_get C (pc' := 40) rfl (k0 := 0) (i := 3) (ci := 6) (by decide) rfl rfl (by decide) (o := some 23) rfl iw_X6 wfX6_35 (D 18 (37, .getfield 35, 3) rfl) rfl ?_
        refine cv_get C (pc' := 43) rfl (k0 := 23) (i := 2) (ci := 2) (by decide) rfl rfl (by decide) (o := none) rfl iw_X2 wfX6_75 (D 19 (40, .getfield 75, 3) rfl) (v := .int (nI rc)) (congrArg Value.int hD.1) ?_
        refine cv_istore_n C (pc' := 44) rfl (D 20 (43, .istore_n 3, 1) rfl) rfl (by decide) (lv' := [(3, .int (nI rc)), (0, .ref 0), (1, .int (nI j)), (2, .int y)]) rfl ?_
        refine cv_iload_n C (pc' := 45) rfl (D 21 (44, .iload_n 3, 1) rfl) rfl (j := 0) rfl ?_
        refine cv_bipush C (pc' := 47) rfl (D 22 (45, .bipush 8, 2) rfl) (v := nI 8) (by decide) ?_
        refine cv_icmp_ltN C (pc' := 50) rfl (by omega) (by omega) (tgt := 53) (D 23 (47, .if_icmp .lt 6, 3) rfl) (by decide) (fun b47 => ?_) (fun b47 => ?_)
        · skip
          refine cv_aload_n C (pc' := 54) rfl (D 26 (53, .aload_n 0, 1) rfl) rfl (j := 1) rfl ?_
          refine cv_get C (pc' := 57) rfl (k0 := 0) (i := 3) (ci := 6) (by decide) rfl rfl (by decide) (o := some 23) rfl iw_X6 wfX6_35 (D 27 (54, .getfield 35, 3) rfl) rfl ?_
          refine cv_get C (pc' := 60) rfl (k0 := 23) (i := 0) (ci := 2) (by decide) rfl rfl (by decide) (o := some 24) rfl iw_X2 wfX6_169 (D 28 (57, .getfield 169, 3) rfl) rfl ?_
          refine cv_iload_n C (pc' := 61) rfl (D 29 (60, .iload_n 3, 1) rfl) rfl (j := 0) rfl ?_
          refine cv_iload_n C (pc' := 62) rfl (D 30 (61, .iload_n 1, 1) rfl) rfl (j := 2) rfl ?_
          refine cv_iast C (pc' := 63) rfl (k0 := 24) (j := rc) (by decide) rfl rfl (by omega) (by decide) (D 31 (62, .iastore, 1) rfl) ?_
          refine cv_aload_n C (pc' := 64) rfl (D 32 (63, .aload_n 0, 1) rfl) rfl (j := 1) rfl ?_
          refine cv_get C (pc' := 67) rfl (k0 := 0) (i := 3) (ci := 6) (by decide) rfl rfl (by decide) (o := some 23) rfl iw_X6 wfX6_35 (D 33 (64, .getfield 35, 3) rfl) rfl ?_
          refine cv_get C (pc' := 70) rfl (k0 := 23) (i := 1) (ci := 2) (by decide) rfl rfl (by decide) (o := some 25) rfl iw_X2 wfX6_172 (D 34 (67, .getfield 172, 3) rfl) rfl ?_
          refine cv_iload_n C (pc' := 71) rfl (D 35 (70, .iload_n 3, 1) rfl) rfl (j := 0) rfl ?_
          refine cv_iload_n C (pc' := 72) rfl (D 36 (71, .iload_n 2, 1) rfl) rfl (j := 3) rfl ?_
          refine cv_iast C (pc' := 73) rfl (k0 := 25) (j := rc) (by decide) rfl rfl (by omega) (by decide) (D 37 (72, .iastore, 1) rfl) ?_
          refine cv_aload_n C (pc' := 74) rfl (D 38 (73, .aload_n 0, 1) rfl) rfl (j := 1) rfl ?_
          refine cv_get C (pc' := 77) rfl (k0 := 0) (i := 3) (ci := 6) (by decide) rfl rfl (by decide) (o := some 23) rfl iw_X6 wfX6_35 (D 39 (74, .getfield 35, 3) rfl) rfl ?_
          refine cv_iload_n C (pc' := 78) rfl (D 40 (77, .iload_n 3, 1) rfl) rfl (j := 0) rfl ?_
          refine cv_iconst C (pc' := 79) rfl (D 41 (78, .iconst 1, 1) rfl) (v := nI 1) (by decide) ?_
          refine cv_iaddN C (pc' := 80) rfl (D 42 (79, .iadd, 1) rfl) ?_
          refine cv_put C (pc' := 83) rfl (k0 := 23) (i := 2) (ci := 2) (by decide) rfl rfl (by decide) rfl iw_X2 tyX2 tyX2_ok nmX2 wfX6_75 rfl rfl rfl (D 43 (80, .putfield 75, 3) rfl) ?_
          refine cv_iload_n C (pc' := 84) rfl (D 44 (83, .iload_n 3, 1) rfl) rfl (j := 0) rfl ?_
          exact cv_iret C Rt rfl (D 45 (84, .ireturn, 1) rfl) ⟨congrArg (fun z => some (Value.int z)) (by unfold cv_a_reading; rw [if_pos ⟨b4, (Or.inl b10)⟩, if_pos (by simpa using b30), if_pos (by omega)]), by rw [if_pos ⟨b4, (Or.inl b10), by simpa using b30, b47⟩]; rw [cv_nt, nI_clamp (show j < 2 ^ 31 by omega)]; exact cv_RC_reading hB hR j _ _ (by unfold cv_on; rw [if_pos b10, b10]; rfl) _ rfl⟩
        · skip
          refine cv_bipush C (pc' := 52) rfl (D 24 (50, .bipush (-4), 2) rfl) (v := -4) (by decide) ?_
          exact cv_iret C Rt rfl (D 25 (52, .ireturn, 1) rfl) ⟨congrArg (fun z => some (Value.int z)) (by unfold cv_a_reading; rw [if_pos ⟨b4, (Or.inl b10)⟩, if_pos (by simpa using b30), if_neg (by omega)]), by rw [if_neg (fun h => by have := h.2.2.2; omega)]; exact hR⟩
      · skip
        refine cv_bipush C (pc' := 35) rfl (D 15 (33, .bipush (-3), 2) rfl) (v := -3) (by decide) ?_
        exact cv_iret C Rt rfl (D 16 (35, .ireturn, 1) rfl) ⟨congrArg (fun z => some (Value.int z)) (by unfold cv_a_reading; rw [if_pos ⟨b4, (Or.inl b10)⟩, if_neg (by simpa using b30)]), by rw [if_neg (fun h => by have := h.2.2.1; simp at b30; omega)]; exact hR⟩
    · skip
      refine cv_iload_n C (pc' := 14) rfl (D 6 (13, .iload_n 2, 1) rfl) rfl (j := 2) rfl ?_
      refine cv_callS C (pc' := 17) rfl (As := [.int y]) (rest := []) (idx := 108) (np := 1) (kX6_isDay y σ) (by decide +kernel) rfl wmX6_108 wt_yX6_isDay wn_X6 wc_yX6_isDay (by decide) (by decide) (D 7 (14, .invokestatic 108, 3) rfl) (Nat.le_of_ble_eq_true rfl) rfl (fun w9 u9 h9 => ?_)
      rw [h9.1, h9.2]
      show cv_At X _ _ σ 17 _ [.int (cv_b (cv_in y 8))]
      refine cv_if_neB C (pc' := 20) rfl (tgt := 23) (D 8 (17, .ifCond .ne 6, 3) rfl) (by decide) (fun b17 => ?_) (fun b17 => ?_)
      · skip
        obtain ⟨j, hj, rfl⟩ := cv_in_of b4 (by omega)
        have b17y := b17
        obtain ⟨w, hw, rfl⟩ := cv_in_of b17 (by omega)
        refine cv_aload_n C (pc' := 24) rfl (D 11 (23, .aload_n 0, 1) rfl) rfl (j := 0) rfl ?_
        refine cv_get C (pc' := 27) rfl (k0 := 0) (i := 1) (ci := 6) (by decide) rfl rfl (by decide) (o := some 10) rfl iw_X6 wfX6_21 (D 12 (24, .getfield 21, 3) rfl) rfl ?_
        refine cv_get C (pc' := 30) rfl (k0 := 10) (i := 5) (ci := 0) (by decide) rfl rfl (by decide) (o := none) rfl iw_X0 wfX6_115 (D 13 (27, .getfield 115, 3) rfl) (v := .int (cv_b (decide (0 < L 7 0)))) (congrArg Value.int hSe) ?_
        refine cv_if_neB C (pc' := 33) rfl (tgt := 36) (D 14 (30, .ifCond .ne 6, 3) rfl) (by decide) (fun b30 => ?_) (fun b30 => ?_)
        · skip
          refine cv_aload_n C (pc' := 37) rfl (D 17 (36, .aload_n 0, 1) rfl) rfl (j := 0) rfl ?_
          refine cv_get C (pc' := 40) rfl (k0 := 0) (i := 3) (ci := 6) (by decide) rfl rfl (by decide) (o := some 23) rfl iw_X6 wfX6_35 (D 18 (37, .getfield 35, 3) rfl) rfl ?_
          refine cv_get C (pc' := 43) rfl (k0 := 23) (i := 2) (ci := 2) (by decide) rfl rfl (by decide) (o := none) rfl iw_X2 wfX6_75 (D 19 (40, .getfield 75, 3) rfl) (v := .int (nI rc)) (congrArg Value.int hD.1) ?_
          refine cv_istore_n C (pc' := 44) rfl (D 20 (43, .istore_n 3, 1) rfl) rfl (by decide) (lv' := [(3, .int (nI rc)), (0, .ref 0), (1, .int (nI j)), (2, .int (nI w))]) rfl ?_
          refine cv_iload_n C (pc' := 45) rfl (D 21 (44, .iload_n 3, 1) rfl) rfl (j := 0) rfl ?_
          refine cv_bipush C (pc' := 47) rfl (D 22 (45, .bipush 8, 2) rfl) (v := nI 8) (by decide) ?_
          refine cv_icmp_ltN C (pc' := 50) rfl (by omega) (by omega) (tgt := 53) (D 23 (47, .if_icmp .lt 6, 3) rfl) (by decide) (fun b47 => ?_) (fun b47 => ?_)
          · skip
            refine cv_aload_n C (pc' := 54) rfl (D 26 (53, .aload_n 0, 1) rfl) rfl (j := 1) rfl ?_
            refine cv_get C (pc' := 57) rfl (k0 := 0) (i := 3) (ci := 6) (by decide) rfl rfl (by decide) (o := some 23) rfl iw_X6 wfX6_35 (D 27 (54, .getfield 35, 3) rfl) rfl ?_
            refine cv_get C (pc' := 60) rfl (k0 := 23) (i := 0) (ci := 2) (by decide) rfl rfl (by decide) (o := some 24) rfl iw_X2 wfX6_169 (D 28 (57, .getfield 169, 3) rfl) rfl ?_
            refine cv_iload_n C (pc' := 61) rfl (D 29 (60, .iload_n 3, 1) rfl) rfl (j := 0) rfl ?_
            refine cv_iload_n C (pc' := 62) rfl (D 30 (61, .iload_n 1, 1) rfl) rfl (j := 2) rfl ?_
            refine cv_iast C (pc' := 63) rfl (k0 := 24) (j := rc) (by decide) rfl rfl (by omega) (by decide) (D 31 (62, .iastore, 1) rfl) ?_
            refine cv_aload_n C (pc' := 64) rfl (D 32 (63, .aload_n 0, 1) rfl) rfl (j := 1) rfl ?_
            refine cv_get C (pc' := 67) rfl (k0 := 0) (i := 3) (ci := 6) (by decide) rfl rfl (by decide) (o := some 23) rfl iw_X6 wfX6_35 (D 33 (64, .getfield 35, 3) rfl) rfl ?_
            refine cv_get C (pc' := 70) rfl (k0 := 23) (i := 1) (ci := 2) (by decide) rfl rfl (by decide) (o := some 25) rfl iw_X2 wfX6_172 (D 34 (67, .getfield 172, 3) rfl) rfl ?_
            refine cv_iload_n C (pc' := 71) rfl (D 35 (70, .iload_n 3, 1) rfl) rfl (j := 0) rfl ?_
            refine cv_iload_n C (pc' := 72) rfl (D 36 (71, .iload_n 2, 1) rfl) rfl (j := 3) rfl ?_
            refine cv_iast C (pc' := 73) rfl (k0 := 25) (j := rc) (by decide) rfl rfl (by omega) (by decide) (D 37 (72, .iastore, 1) rfl) ?_
            refine cv_aload_n C (pc' := 74) rfl (D 38 (73, .aload_n 0, 1) rfl) rfl (j := 1) rfl ?_
            refine cv_get C (pc' := 77) rfl (k0 := 0) (i := 3) (ci := 6) (by decide) rfl rfl (by decide) (o := some 23) rfl iw_X6 wfX6_35 (D 39 (74, .getfield 35, 3) rfl) rfl ?_
            refine cv_iload_n C (pc' := 78) rfl (D 40 (77, .iload_n 3, 1) rfl) rfl (j := 0) rfl ?_
            refine cv_iconst C (pc' := 79) rfl (D 41 (78, .iconst 1, 1) rfl) (v := nI 1) (by decide) ?_
            refine cv_iaddN C (pc' := 80) rfl (D 42 (79, .iadd, 1) rfl) ?_
            refine cv_put C (pc' := 83) rfl (k0 := 23) (i := 2) (ci := 2) (by decide) rfl rfl (by decide) rfl iw_X2 tyX2 tyX2_ok nmX2 wfX6_75 rfl rfl rfl (D 43 (80, .putfield 75, 3) rfl) ?_
            refine cv_iload_n C (pc' := 84) rfl (D 44 (83, .iload_n 3, 1) rfl) rfl (j := 0) rfl ?_
            exact cv_iret C Rt rfl (D 45 (84, .ireturn, 1) rfl) ⟨congrArg (fun z => some (Value.int z)) (by unfold cv_a_reading; rw [if_pos ⟨b4, (Or.inr b17)⟩, if_pos (by simpa using b30), if_pos (by omega)]), by rw [if_pos ⟨b4, (Or.inr b17), by simpa using b30, b47⟩]; rw [cv_nt, nI_clamp (show j < 2 ^ 31 by omega)]; exact cv_RC_reading hB hR j _ _ (by unfold cv_on; rw [if_neg b10, cv_nt, nI_clamp (show w < 2 ^ 31 by omega)]; rfl) _ rfl⟩
          · skip
            refine cv_bipush C (pc' := 52) rfl (D 24 (50, .bipush (-4), 2) rfl) (v := -4) (by decide) ?_
            exact cv_iret C Rt rfl (D 25 (52, .ireturn, 1) rfl) ⟨congrArg (fun z => some (Value.int z)) (by unfold cv_a_reading; rw [if_pos ⟨b4, (Or.inr b17)⟩, if_pos (by simpa using b30), if_neg (by omega)]), by rw [if_neg (fun h => by have := h.2.2.2; omega)]; exact hR⟩
        · skip
          refine cv_bipush C (pc' := 35) rfl (D 15 (33, .bipush (-3), 2) rfl) (v := -3) (by decide) ?_
          exact cv_iret C Rt rfl (D 16 (35, .ireturn, 1) rfl) ⟨congrArg (fun z => some (Value.int z)) (by unfold cv_a_reading; rw [if_pos ⟨b4, (Or.inr b17)⟩, if_neg (by simpa using b30)]), by rw [if_neg (fun h => by have := h.2.2.1; simp at b30; omega)]; exact hR⟩
      · skip
        refine cv_bipush C (pc' := 22) rfl (D 9 (20, .bipush (-2), 2) rfl) (v := -2) (by decide) ?_
        exact cv_iret C Rt rfl (D 10 (22, .ireturn, 1) rfl) ⟨congrArg (fun z => some (Value.int z)) (by unfold cv_a_reading; rw [if_neg (by simp [b10, b17])]), by rw [if_neg (fun h => by rcases h.2.1 with h | h; exact b10 h; rw [b17] at h; cases h)]; exact hR⟩

set_option maxHeartbeats 4000000 in
set_option maxRecDepth 100000 in
theorem pX6_back (tr : Int32) (ft : Nat) (sl : Nat → Option (Nat × Nat)) (sc : Nat → Nat → Int32) (L : cv_L) (rc : Nat) (rd : Nat → Nat) (rn : Nat → Option Nat) (x : Int32) (σ : cv_St) (hR : cv_RC tr ft sl sc L rc rd rn σ) (hB : cv_LB L) (hDB : cv_DB rc rd rn) : cv_Ct yX6_back cX6_back 2 (some .int) 0 0 0 26 cv_shC [.ref 0, .int x] σ (fun v u => v = some (.int (cv_a_back rc x)) ∧ cv_RC tr ft sl sc L (if cv_in x (rc + 1) = true then rc - cv_nt x else rc) rd rn u) := by
  refine cv_enter (own := RX6) (by decide) rfl (Nat.le_of_ble_eq_true rfl) ?_
  intro X a C Rt hRm
  have D := @cv_dec _ _ dkX6_back
  obtain ⟨hTr, hFt, hSh, hL, hSe, hD⟩ := id hR
  have hn6 := hB.1
  have hrc := hDB.1
  show cv_At X _ _ σ 0 [(0, .ref 0), (1, .int x)] []
  refine cv_iload_n C (pc' := 1) rfl (D 0 (0, .iload_n 1, 1) rfl) rfl (j := 1) rfl ?_
  refine cv_if_lt C (pc' := 4) rfl (tgt := 15) (D 1 (1, .ifCond .lt 14, 3) rfl) (by decide) (fun b1 => ?_) (fun b1 => ?_)
  · skip
    have hn9 : ¬ cv_in x (rc + 1) = true := fun h => (of_decide_eq_true h).1 b1
    refine cv_bipush C (pc' := 17) rfl (D 7 (15, .bipush (-2), 2) rfl) (v := -2) (by decide) ?_
    exact cv_iret C Rt rfl (D 8 (17, .ireturn, 1) rfl) ⟨congrArg (fun z => some (Value.int z)) (by unfold cv_a_back; rw [if_neg hn9]), by rw [if_neg hn9]; exact hR⟩
  · skip
    refine cv_iload_n C (pc' := 5) rfl (D 2 (4, .iload_n 1, 1) rfl) rfl (j := 1) rfl ?_
    refine cv_aload_n C (pc' := 6) rfl (D 3 (5, .aload_n 0, 1) rfl) rfl (j := 0) rfl ?_
    refine cv_get C (pc' := 9) rfl (k0 := 0) (i := 3) (ci := 6) (by decide) rfl rfl (by decide) (o := some 23) rfl iw_X6 wfX6_35 (D 4 (6, .getfield 35, 3) rfl) rfl ?_
    refine cv_get C (pc' := 12) rfl (k0 := 23) (i := 2) (ci := 2) (by decide) rfl rfl (by decide) (o := none) rfl iw_X2 wfX6_75 (D 5 (9, .getfield 75, 3) rfl) (v := .int (nI rc)) (congrArg Value.int hD.1) ?_
    refine cv_icmp_le C (pc' := 15) rfl (tgt := 18) (D 6 (12, .if_icmp .le 6, 3) rfl) (by decide) (fun b12 => ?_) (fun b12 => ?_)
    · skip
      have hx9 : cv_in x (rc + 1) = true := decide_eq_true ⟨b1, by
        obtain ⟨j, hj, rfl⟩ := nI_of b1
        have := (nI_leI hj (by omega)).mp b12
        exact nI_lt (by omega) (by omega)⟩
      obtain ⟨j, hj, rfl⟩ := cv_in_of hx9 (by omega)
      refine cv_aload_n C (pc' := 19) rfl (D 9 (18, .aload_n 0, 1) rfl) rfl (j := 0) rfl ?_
      refine cv_get C (pc' := 22) rfl (k0 := 0) (i := 3) (ci := 6) (by decide) rfl rfl (by decide) (o := some 23) rfl iw_X6 wfX6_35 (D 10 (19, .getfield 35, 3) rfl) rfl ?_
      refine cv_dup C (pc' := 23) rfl (D 11 (22, .dup, 1) rfl) rfl ?_
      refine cv_get C (pc' := 26) rfl (k0 := 23) (i := 2) (ci := 2) (by decide) rfl rfl (by decide) (o := none) rfl iw_X2 wfX6_75 (D 12 (23, .getfield 75, 3) rfl) (v := .int (nI rc)) (congrArg Value.int hD.1) ?_
      refine cv_iload_n C (pc' := 27) rfl (D 13 (26, .iload_n 1, 1) rfl) rfl (j := 1) rfl ?_
      refine cv_isubN C (pc' := 28) rfl (by omega) (D 14 (27, .isub, 1) rfl) ?_
      refine cv_put C (pc' := 31) rfl (k0 := 23) (i := 2) (ci := 2) (by decide) rfl rfl (by decide) rfl iw_X2 tyX2 tyX2_ok nmX2 wfX6_75 rfl rfl rfl (D 15 (28, .putfield 75, 3) rfl) ?_
      refine cv_aload_n C (pc' := 32) rfl (D 16 (31, .aload_n 0, 1) rfl) rfl (j := 0) rfl ?_
      refine cv_get C (pc' := 35) rfl (k0 := 0) (i := 3) (ci := 6) (by decide) rfl rfl (by decide) (o := some 23) rfl iw_X6 wfX6_35 (D 17 (32, .getfield 35, 3) rfl) rfl ?_
      refine cv_get C (pc' := 38) rfl (k0 := 23) (i := 2) (ci := 2) (by decide) rfl rfl (by decide) (o := none) rfl iw_X2 wfX6_75 (D 18 (35, .getfield 75, 3) rfl) (v := .int (nI (rc - j))) (congrArg Value.int cv_u_s) ?_
      exact cv_iret C Rt rfl (D 19 (38, .ireturn, 1) rfl) ⟨congrArg (fun z => some (Value.int z)) (by unfold cv_a_back; rw [if_pos hx9, cv_nt, nI_clamp (by omega)]), by rw [if_pos hx9, cv_nt, nI_clamp (by omega)]; exact cv_RC_back hB hR _ (Nat.sub_le _ _)⟩
    · skip
      have hn9 : ¬ cv_in x (rc + 1) = true := fun h => by
        obtain ⟨j, hj, rfl⟩ := cv_in_of h (by omega)
        exact b12 (nI_le (by omega) (by omega))
      refine cv_bipush C (pc' := 17) rfl (D 7 (15, .bipush (-2), 2) rfl) (v := -2) (by decide) ?_
      exact cv_iret C Rt rfl (D 8 (17, .ireturn, 1) rfl) ⟨congrArg (fun z => some (Value.int z)) (by unfold cv_a_back; rw [if_neg hn9]), by rw [if_neg hn9]; exact hR⟩

