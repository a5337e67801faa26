theorem cv_hv_b : ∀ (k u l : Nat), u ≤ 2 ^ k → l = 2 ^ k → (cv_hv k u l).1 ≤ 2 ^ k ∧ (cv_hv k u l).2 ≤ 2 ^ k
  | 0, u, l, h1, h2 => ⟨h1, by rw [h2]; exact Nat.le_refl _⟩
  | k + 1, u, l, h1, h2 => by
    simp only [cv_hv]
    split
    · have h3 : 2 ^ (k + 1) = 2 * 2 ^ k := by rw [Nat.pow_succ]; omega
      have := cv_hv_b k (u / 2) (l / 2) (by omega) (by omega)
      exact ⟨by omega, by omega⟩
    · exact ⟨h1, by rw [h2]; exact Nat.le_refl _⟩
theorem cv_pc_le (t : Nat) : cv_pc t ≤ 8 := cv_cnt_le _ 8
/-- of the sets that a valley may keep to, at most all can do -/
theorem cv_ct_sub (g : Nat) (hg : g < 256) : cv_cnt (fun i => decide (i &&& (g ^^^ 4294967295) = 0)) 256 = 2 ^ cv_pc g := by
  revert g
  decide +kernel
theorem cv_cnt_mono {P Q : Nat → Bool} (h : ∀ i, P i = true → Q i = true) : ∀ n, cv_cnt P n ≤ cv_cnt Q n
  | 0 => Nat.le_refl _
  | n + 1 => by
    have := cv_cnt_mono h n
    simp only [cv_cnt]
    cases hp : P n with
    | false => simp; split <;> omega
    | true => rw [h n hp]; simp; exact this
theorem cv_odb (L : cv_L) (k d w : Nat) (hk : k < 3) (hg : L 6 k < 256) : cv_odn L k d w ≤ 2 ^ cv_pc (L 6 k) := by
  rw [← cv_ct_sub _ hg]
  refine cv_cnt_mono (fun i h => ?_) 256
  exact (Bool.and_eq_true _ _ ▸ h).1
set_option maxHeartbeats 4000000 in
set_option maxRecDepth 100000 in
theorem kX6_odds0 (tr : Int32) (ft : Nat) (sl : Nat → Option (Nat × Nat)) (sc : Nat → Nat → Int32) (L : cv_L) (rc : Nat) (rd : Nat → Nat) (rn : Nat → Option Nat) (x y z w0 : Int32) (σ : cv_St) (hR : cv_RC tr ft sl sc L rc rd rn σ) (hB : cv_LB L) (hDB : cv_DB rc rd rn) (hx1 : ¬ x = 1) (hx2 : ¬ x = 2) : cv_Ct yX6_odds cX6_odds 8 (some .long) 5 0 0 26 cv_shC [.ref 0, .int x, .int y, .int z, .int w0] σ (fun v u => v = some (.long (cv_a_odds L x y z w0)) ∧ cv_RC tr ft sl sc L rc rd rn u) := by
  refine cv_enter (own := RX6) (by decide) rfl (Nat.le_of_ble_eq_true rfl) ?_
  intro X a C Rt hRm
  have D := @cv_dec _ _ dkX6_odds
  obtain ⟨hTr, hFt, hSh, hL, hSe, hD⟩ := id hR
  have hn6 := hB.1
  have hrc := hDB.1
  have hgk := hB.2.2.2 1 (by decide)
  show cv_At X _ _ σ 0 [(0, .ref 0), (1, .int x), (2, .int y), (3, .int z), (4, .int w0)] []
  refine cv_iload_n C (pc' := 1) rfl (D 0 (0, .iload_n 1, 1) rfl) rfl (j := 1) rfl ?_
  refine cv_iconst C (pc' := 2) rfl (D 1 (1, .iconst 1, 1) rfl) (v := nI 1) (by decide) ?_
  refine cv_icmp_eq C (pc' := 5) rfl (tgt := 10) (D 2 (2, .if_icmp .eq 8, 3) rfl) (by decide) (fun b2 => ?_) (fun b2 => ?_)
  · skip
    exact absurd b2 hx1
  · skip
    refine cv_iload_n C (pc' := 6) rfl (D 3 (5, .iload_n 1, 1) rfl) rfl (j := 1) rfl ?_
    refine cv_iconst C (pc' := 7) rfl (D 4 (6, .iconst 2, 1) rfl) (v := nI 2) (by decide) ?_
    refine cv_icmp_ne C (pc' := 10) rfl (tgt := 14) (D 5 (7, .if_icmp .ne 7, 3) rfl) (by decide) (fun b7 => ?_) (fun b7 => ?_)
    · skip
      refine cv_iconst C (pc' := 15) rfl (D 8 (14, .iconst 0, 1) rfl) (v := nI 0) (by decide) ?_
      refine cv_istore C (pc' := 17) rfl (D 9 (15, .istore 5, 2) rfl) (by decide) (lv' := [(5, .int (nI 0)), (0, .ref 0), (1, .int x), (2, .int y), (3, .int z), (4, .int w0)]) rfl ?_
      refine cv_iload C (pc' := 19) rfl (D 10 (17, .iload 5, 2) rfl) (j := 0) rfl ?_
      refine cv_if_eq C (pc' := 22) rfl (tgt := 55) (D 11 (19, .ifCond .eq 36, 3) rfl) (by decide) (fun _ => ?_) (fun h => absurd h (by decide))
      refine cv_ldc2 C (pc' := 58) rfl wlX6_182 (D 26 (55, .ldc2_w 182, 3) rfl) ?_
      exact cv_lret C Rt (D 27 (58, .lreturn, 1) rfl) ⟨congrArg (fun z => some (Value.long z)) (by unfold cv_a_odds; rw [if_neg (fun h => h.1.elim hx1 hx2)]), hR⟩
    · skip
      exact absurd b7 hx2

set_option maxHeartbeats 4000000 in
set_option maxRecDepth 100000 in
theorem kX6_odds1 (tr : Int32) (ft : Nat) (sl : Nat → Option (Nat × Nat)) (sc : Nat → Nat → Int32) (L : cv_L) (rc : Nat) (rd : Nat → Nat) (rn : Nat → Option Nat) (y z w0 : Int32) (σ : cv_St) (hR : cv_RC tr ft sl sc L rc rd rn σ) (hB : cv_LB L) (hDB : cv_DB rc rd rn) : cv_Ct yX6_odds cX6_odds 8 (some .long) 5 0 0 26 cv_shC [.ref 0, .int (nI 1), .int y, .int z, .int w0] σ (fun v u => v = some (.long (cv_a_odds L (nI 1) y z w0)) ∧ cv_RC tr ft sl sc L rc rd rn u) := by
  refine cv_enter (own := RX6) (by decide) rfl (Nat.le_of_ble_eq_true rfl) ?_
  intro X a C Rt hRm
  have D := @cv_dec _ _ dkX6_odds
  obtain ⟨hTr, hFt, hSh, hL, hSe, hD⟩ := id hR
  have hn6 := hB.1
  have hrc := hDB.1
  have hgk := hB.2.2.2 1 (by decide)
  show cv_At X _ _ σ 0 [(0, .ref 0), (1, .int (nI 1)), (2, .int y), (3, .int z), (4, .int w0)] []
  refine cv_iload_n C (pc' := 1) rfl (D 0 (0, .iload_n 1, 1) rfl) rfl (j := 1) rfl ?_
  refine cv_iconst C (pc' := 2) rfl (D 1 (1, .iconst 1, 1) rfl) (v := nI 1) (by decide) ?_
  refine cv_icmp_eq C (pc' := 5) rfl (tgt := 10) (D 2 (2, .if_icmp .eq 8, 3) rfl) (by decide) (fun _ => ?_) (fun h => absurd h (by decide))
  refine cv_iconst C (pc' := 11) rfl (D 6 (10, .iconst 1, 1) rfl) (v := nI 1) (by decide) ?_
  refine cv_goto C (tgt := 15) (D 7 (11, .goto 4, 3) rfl) (by decide) ?_
  refine cv_istore C (pc' := 17) rfl (D 9 (15, .istore 5, 2) rfl) (by decide) (lv' := [(5, .int (nI 1)), (0, .ref 0), (1, .int (nI 1)), (2, .int y), (3, .int z), (4, .int w0)]) rfl ?_
  refine cv_iload C (pc' := 19) rfl (D 10 (17, .iload 5, 2) rfl) (j := 0) rfl ?_
  refine cv_if_eq C (pc' := 22) rfl (tgt := 55) (D 11 (19, .ifCond .eq 36, 3) rfl) (by decide) (fun h => absurd h (by decide)) (fun _ => ?_)
  refine cv_iload_n C (pc' := 23) rfl (D 12 (22, .iload_n 2, 1) rfl) rfl (j := 3) rfl ?_
  refine cv_callS C (pc' := 26) rfl (As := [.int y]) (rest := []) (idx := 108) (np := 1) (kX6_isDay y σ) (by decide +kernel) rfl wmX6_108 wt_yX6_isDay wn_X6 wc_yX6_isDay (by decide) (by decide) (D 13 (23, .invokestatic 108, 3) rfl) (Nat.le_of_ble_eq_true rfl) rfl (fun w9 u9 h9 => ?_)
  rw [h9.1, h9.2]
  show cv_At X _ _ σ 26 _ [.int (cv_b (cv_in y 8))]
  refine cv_if_eqB C (pc' := 29) rfl (tgt := 55) (D 14 (26, .ifCond .eq 29, 3) rfl) (by decide) (fun b26 => ?_) (fun b26 => ?_)
  · skip
    refine cv_ldc2 C (pc' := 58) rfl wlX6_182 (D 26 (55, .ldc2_w 182, 3) rfl) ?_
    exact cv_lret C Rt (D 27 (58, .lreturn, 1) rfl) ⟨congrArg (fun z => some (Value.long z)) (by unfold cv_a_odds; rw [if_neg (fun h => by rw [h.2.1] at b26; cases b26)]), hR⟩
  · skip
    refine cv_iload_n C (pc' := 30) rfl (D 15 (29, .iload_n 3, 1) rfl) rfl (j := 4) rfl ?_
    refine cv_callS C (pc' := 33) rfl (As := [.int z]) (rest := []) (idx := 108) (np := 1) (kX6_isDay z σ) (by decide +kernel) rfl wmX6_108 wt_yX6_isDay wn_X6 wc_yX6_isDay (by decide) (by decide) (D 16 (30, .invokestatic 108, 3) rfl) (Nat.le_of_ble_eq_true rfl) rfl (fun w9 u9 h9 => ?_)
    rw [h9.1, h9.2]
    show cv_At X _ _ σ 33 _ [.int (cv_b (cv_in z 8))]
    refine cv_if_eqB C (pc' := 36) rfl (tgt := 55) (D 17 (33, .ifCond .eq 22, 3) rfl) (by decide) (fun b33 => ?_) (fun b33 => ?_)
    · skip
      refine cv_ldc2 C (pc' := 58) rfl wlX6_182 (D 26 (55, .ldc2_w 182, 3) rfl) ?_
      exact cv_lret C Rt (D 27 (58, .lreturn, 1) rfl) ⟨congrArg (fun z => some (Value.long z)) (by unfold cv_a_odds; rw [if_neg (fun h => by rw [h.2.2.1] at b33; cases b33)]), hR⟩
    · skip
      refine cv_iload C (pc' := 38) rfl (D 18 (36, .iload 4, 2) rfl) (j := 5) rfl ?_
      refine cv_iconst C (pc' := 39) rfl (D 19 (38, .iconst 2, 1) rfl) (v := nI 2) (by decide) ?_
      refine cv_callS C (pc' := 42) rfl (As := [.int w0, .int (nI 2)]) (rest := []) (idx := 111) (np := 2) (kX6_isBelow w0 2 σ) (by decide +kernel) rfl wmX6_111 wt_yX6_isBelow wn_X6 wc_yX6_isBelow (by decide) (by decide) (D 20 (39, .invokestatic 111, 3) rfl) (Nat.le_of_ble_eq_true rfl) rfl (fun w9 u9 h9 => ?_)
      rw [h9.1, h9.2]
      show cv_At X _ _ σ 42 _ [.int (cv_b (cv_in w0 2))]
      refine cv_if_eqB C (pc' := 45) rfl (tgt := 55) (D 21 (42, .ifCond .eq 13, 3) rfl) (by decide) (fun b42 => ?_) (fun b42 => ?_)
      · skip
        refine cv_ldc2 C (pc' := 58) rfl wlX6_182 (D 26 (55, .ldc2_w 182, 3) rfl) ?_
        exact cv_lret C Rt (D 27 (58, .lreturn, 1) rfl) ⟨congrArg (fun z => some (Value.long z)) (by unfold cv_a_odds; rw [if_neg (fun h => by rw [h.2.2.2.1] at b42; cases b42)]), hR⟩
      · skip
        refine cv_aload_n C (pc' := 46) rfl (D 22 (45, .aload_n 0, 1) rfl) rfl (j := 1) rfl ?_
        refine cv_get C (pc' := 49) rfl (k0 := 0) (i := 1) (ci := 6) (by decide) rfl rfl (by decide) (o := some 10) rfl iw_X6 wfX6_21 (D 23 (46, .getfield 21, 3) rfl) rfl ?_
        refine cv_get C (pc' := 52) rfl (k0 := 10) (i := 5) (ci := 0) (by decide) rfl rfl (by decide) (o := none) rfl iw_X0 wfX6_115 (D 24 (49, .getfield 115, 3) rfl) (v := .int (cv_b (decide (0 < L 7 0)))) (congrArg Value.int hSe) ?_
        refine cv_if_neB C (pc' := 55) rfl (tgt := 59) (D 25 (52, .ifCond .ne 7, 3) rfl) (by decide) (fun b52 => ?_) (fun b52 => ?_)
        · skip
          obtain ⟨j, hj, rfl⟩ := cv_in_of b26 (by omega)
          obtain ⟨w, hw, rfl⟩ := cv_in_of b33 (by omega)
          obtain ⟨q, hq, rfl⟩ := cv_in_of b42 (by omega)
          refine cv_aload_n C (pc' := 60) rfl (D 28 (59, .aload_n 0, 1) rfl) rfl (j := 1) rfl ?_
          refine cv_get C (pc' := 63) rfl (k0 := 0) (i := 1) (ci := 6) (by decide) rfl rfl (by decide) (o := some 10) rfl iw_X6 wfX6_21 (D 29 (60, .getfield 21, 3) rfl) rfl ?_
          refine cv_iconst C (pc' := 64) rfl (D 30 (63, .iconst (-1), 1) rfl) (v := -1) (by decide) ?_
          refine cv_callV C (pc' := 67) rfl (k0 := 10) (ci := 0) (As := [.int (-1)]) (rest := []) (idx := 131) (np := 1) (kX0_chart L (-1) σ hL hB) (by decide) rfl rfl rfl (by decide +kernel) rfl wmX6_131 wi_yX0_chart ws_yX0_chart wn_X0 wc_yX0_chart (by decide) (by decide) (D 31 (64, .invokevirtual 131, 3) rfl) (Nat.le_of_ble_eq_true rfl) rfl (fun w64 u64 h64 => ?_)
          obtain ⟨e64, hCOu64⟩ := h64
          rw [e64]
          have hKu64 : ∀ k, k ≠ 20 → k ≠ 21 → k ≠ 22 → u64 k = σ k := fun k h _ _ => hCOu64.1 k h
          have hLu64 := cv_LC_k hKu64 hL hB
          have hTu64 := cv_TC_of hCOu64
          have hDu64 := cv_DC_k hKu64 hD
          show cv_At X _ _ u64 67 _ []
          refine cv_aload_n C (pc' := 68) rfl (D 32 (67, .aload_n 0, 1) rfl) rfl (j := 1) rfl ?_
          refine cv_get C (pc' := 71) rfl (k0 := 0) (i := 1) (ci := 6) (by decide) rfl rfl (by decide) (o := some 10) rfl iw_X6 wfX6_21 (D 33 (68, .getfield 21, 3) rfl) rfl ?_
          refine cv_iload_n C (pc' := 72) rfl (D 34 (71, .iload_n 3, 1) rfl) rfl (j := 4) rfl ?_
          refine cv_iload_n C (pc' := 73) rfl (D 35 (72, .iload_n 2, 1) rfl) rfl (j := 3) rfl ?_
          refine cv_iload_n C (pc' := 74) rfl (D 36 (73, .iload_n 1, 1) rfl) rfl (j := 2) rfl ?_
          refine cv_callV C (pc' := 77) rfl (k0 := 10) (ci := 0) (As := [.int (nI w), .int (nI j), .int (nI 1)]) (rest := []) (idx := 184) (np := 3) (kX0_setsDoneBy1 L (cv_RT L (fun q => decide (nI q = -1)) 8) w j u64 hLu64 hB hTu64 (by omega) (by omega)) (by decide) rfl rfl rfl (by decide +kernel) rfl wmX6_184 wi_yX0_setsDoneBy ws_yX0_setsDoneBy wn_X0 wc_yX0_setsDoneBy (by decide) (by decide) (D 37 (74, .invokevirtual 184, 3) rfl) (Nat.le_of_ble_eq_true rfl) rfl (fun w9 u9 h9 => ?_)
          rw [h9.1, h9.2]
          show cv_At X _ _ u64 77 _ [.int (nI (cv_cnt (fun i => decide (i &&& (L 6 1 ^^^ 4294967295) = 0) && cv_can L (-1) j w i (L 6 2)) 256))]
          refine cv_istore C (pc' := 79) rfl (D 38 (77, .istore 6, 2) rfl) (by decide) (lv' := [(6, .int (nI (cv_cnt (fun i => decide (i &&& (L 6 1 ^^^ 4294967295) = 0) && cv_can L (-1) j w i (L 6 2)) 256))), (5, .int (nI 1)), (0, .ref 0), (1, .int (nI 1)), (2, .int (nI j)), (3, .int (nI w)), (4, .int (nI q))]) rfl ?_
          refine cv_iconst C (pc' := 80) rfl (D 39 (79, .iconst 1, 1) rfl) (v := nI 1) (by decide) ?_
          refine cv_aload_n C (pc' := 81) rfl (D 40 (80, .aload_n 0, 1) rfl) rfl (j := 2) rfl ?_
          refine cv_get C (pc' := 84) rfl (k0 := 0) (i := 1) (ci := 6) (by decide) rfl rfl (by decide) (o := some 10) rfl iw_X6 wfX6_21 (D 41 (81, .getfield 21, 3) rfl) rfl ?_
          refine cv_get C (pc' := 87) rfl (k0 := 10) (i := 2) (ci := 0) (by decide) rfl rfl (by decide) (o := some 19) rfl iw_X0 wfX6_125 (D 42 (84, .getfield 125, 3) rfl) rfl ?_
          refine cv_iload_n C (pc' := 88) rfl (D 43 (87, .iload_n 1, 1) rfl) rfl (j := 3) rfl ?_
          refine cv_iald C (pc' := 89) rfl (k0 := 19) (j := 1) (by decide) rfl rfl (by omega) (by decide) (D 44 (88, .iaload, 1) rfl) (v := nI (L 6 1)) (hLu64.2.2.1 _ (by omega)) ?_
          refine cv_callS C (pc' := 92) rfl (As := [.int (nI (L 6 1))]) (rest := [.int (nI 1)]) (idx := 187) (np := 1) (kJ6_bitCount (nI (L 6 1)) u64) (by decide +kernel) rfl wmX6_187 wt_yJ6_bitCount_0f7a4 wn_J6 wc_yJ6_bitCount_0f7a4 (by decide) (by decide) (D 45 (89, .invokestatic 187, 3) rfl) (Nat.le_of_ble_eq_true rfl) rfl (fun w9 u9 h9 => ?_)
          rw [h9.1, h9.2]
          show cv_At X _ _ u64 92 _ [.int (cv_bcx (nI (L 6 1))), .int (nI 1)]
          refine cv_ishl C (pc' := 93) rfl (D 46 (92, .ishl, 1) rfl) ?_
          refine cv_top (w := nI (2 ^ cv_pc (L 6 1))) (by rw [cv_bcx8 _ hgk]; exact cv_shl1 (by have := cv_pc_le (L 6 1); omega)) ?_
          refine cv_istore C (pc' := 95) rfl (D 47 (93, .istore 7, 2) rfl) (by decide) (lv' := [(7, .int (nI (2 ^ cv_pc (L 6 1)))), (6, .int (nI (cv_cnt (fun i => decide (i &&& (L 6 1 ^^^ 4294967295) = 0) && cv_can L (-1) j w i (L 6 2)) 256))), (5, .int (nI 1)), (0, .ref 0), (1, .int (nI 1)), (2, .int (nI j)), (3, .int (nI w)), (4, .int (nI q))]) rfl ?_
          have LP95 : ∀ (r : Nat) (uu : Nat) (ll : Nat), (ll = 2 ^ r) → (uu ≤ 2 ^ r) → (r ≤ 8) → (cv_hv r uu ll = cv_hv (cv_pc (L 6 1)) (cv_odn L 1 j w) (2 ^ cv_pc (L 6 1))) → cv_At X (26, cv_shC, 0, 0, a) 8 u64 95 [(7, .int (nI ll)), (6, .int (nI uu)), (0, .ref 0), (1, .int (nI 1)), (2, .int (nI j)), (3, .int (nI w)), (4, .int (nI q)), (5, .int (nI 1))] [] := by
            intro r
            induction r with
            | zero =>
              intro uu ll hll huu hr8 hu0
              have h2r : 2 ^ 0 = 1 := rfl
              refine cv_iload C (pc' := 97) rfl (D 48 (95, .iload 7, 2) rfl) (j := 0) rfl ?_
              refine cv_iconst C (pc' := 98) rfl (D 49 (97, .iconst 1, 1) rfl) (v := nI 1) (by decide) ?_
              refine cv_icmp_leN C (pc' := 101) rfl (by omega) (by omega) (tgt := 123) (D 50 (98, .if_icmp .le 25, 3) rfl) (by decide) (fun b98 => ?_) (fun b98 => ?_)
              · skip
                refine cv_iload C (pc' := 125) rfl (D 64 (123, .iload 4, 2) rfl) (j := 6) rfl ?_
                refine cv_if_neN C (pc' := 128) rfl (by omega) (tgt := 134) (D 65 (125, .ifCond .ne 9, 3) rfl) (by decide) (fun b125 => ?_) (fun b125 => ?_)
                · skip
                  refine cv_iload C (pc' := 136) rfl (D 69 (134, .iload 7, 2) rfl) (j := 0) rfl ?_
                  refine cv_i2l C (pc' := 137) rfl (D 70 (136, .i2l, 1) rfl) (v := lN ll) (nI_l (by omega)) ?_
                  exact cv_lret C Rt (D 71 (137, .lreturn, 1) rfl) ⟨congrArg (fun z => some (Value.long z)) (by unfold cv_a_odds; rw [if_pos ⟨Or.inl (by decide), b26, b33, b42, by simpa using b52⟩, if_neg (fun h => by rw [← nI_0] at h; have := (nI_eq (by omega) (by omega)).mp h; omega)]; simp only [cv_nt, nI_clamp (show j < 2 ^ 31 by omega), nI_clamp (show w < 2 ^ 31 by omega), show (nI 1).toNatClampNeg = 1 by decide]; rw [← hu0, show cv_hv 0 uu ll = (uu, ll) from rfl]), cv_RC_k hKu64 hB hR⟩
                · skip
                  refine cv_iload C (pc' := 130) rfl (D 66 (128, .iload 6, 2) rfl) (j := 1) rfl ?_
                  refine cv_i2l C (pc' := 131) rfl (D 67 (130, .i2l, 1) rfl) (v := lN uu) (nI_l (by omega)) ?_
                  refine cv_goto C (tgt := 137) (D 68 (131, .goto 6, 3) rfl) (by decide) ?_
                  exact cv_lret C Rt (D 71 (137, .lreturn, 1) rfl) ⟨congrArg (fun z => some (Value.long z)) (by unfold cv_a_odds; rw [if_pos ⟨Or.inl (by decide), b26, b33, b42, by simpa using b52⟩, if_pos (by rw [b125]; rfl)]; simp only [cv_nt, nI_clamp (show j < 2 ^ 31 by omega), nI_clamp (show w < 2 ^ 31 by omega), show (nI 1).toNatClampNeg = 1 by decide]; rw [← hu0, show cv_hv 0 uu ll = (uu, ll) from rfl]), cv_RC_k hKu64 hB hR⟩
              · skip
                omega
            | succ r ih95 =>
              intro uu ll hll huu hr8 hu0
              have h2r : 2 ^ (r + 1) = 2 * 2 ^ r := by rw [Nat.pow_succ]; omega
              have h2p : 2 ^ r ≤ 2 ^ 8 := Nat.pow_le_pow_right (by decide) (by omega)
              have h2q : 1 ≤ 2 ^ r := Nat.one_le_two_pow
              refine cv_iload C (pc' := 97) rfl (D 48 (95, .iload 7, 2) rfl) (j := 0) rfl ?_
              refine cv_iconst C (pc' := 98) rfl (D 49 (97, .iconst 1, 1) rfl) (v := nI 1) (by decide) ?_
              refine cv_icmp_leN C (pc' := 101) rfl (by omega) (by omega) (tgt := 123) (D 50 (98, .if_icmp .le 25, 3) rfl) (by decide) (fun b98 => ?_) (fun b98 => ?_)
              · skip
                omega
              · skip
                refine cv_iload C (pc' := 103) rfl (D 51 (101, .iload 6, 2) rfl) (j := 1) rfl ?_
                refine cv_iconst C (pc' := 104) rfl (D 52 (103, .iconst 2, 1) rfl) (v := nI 2) (by decide) ?_
                refine cv_iremN C (pc' := 105) rfl (by omega) (by decide) (by decide) (D 53 (104, .irem, 1) rfl) ?_
                refine cv_if_neN C (pc' := 108) rfl (by omega) (tgt := 123) (D 54 (105, .ifCond .ne 18, 3) rfl) (by decide) (fun b105 => ?_) (fun b105 => ?_)
                · skip
                  refine cv_iload C (pc' := 125) rfl (D 64 (123, .iload 4, 2) rfl) (j := 6) rfl ?_
                  refine cv_if_neN C (pc' := 128) rfl (by omega) (tgt := 134) (D 65 (125, .ifCond .ne 9, 3) rfl) (by decide) (fun b125 => ?_) (fun b125 => ?_)
                  · skip
                    refine cv_iload C (pc' := 136) rfl (D 69 (134, .iload 7, 2) rfl) (j := 0) rfl ?_
                    refine cv_i2l C (pc' := 137) rfl (D 70 (136, .i2l, 1) rfl) (v := lN ll) (nI_l (by omega)) ?_
                    exact cv_lret C Rt (D 71 (137, .lreturn, 1) rfl) ⟨congrArg (fun z => some (Value.long z)) (by unfold cv_a_odds; rw [if_pos ⟨Or.inl (by decide), b26, b33, b42, by simpa using b52⟩, if_neg (fun h => by rw [← nI_0] at h; have := (nI_eq (by omega) (by omega)).mp h; omega)]; simp only [cv_nt, nI_clamp (show j < 2 ^ 31 by omega), nI_clamp (show w < 2 ^ 31 by omega), show (nI 1).toNatClampNeg = 1 by decide]; rw [← hu0, show cv_hv (r + 1) uu ll = (uu, ll) from (by simp only [cv_hv]; rw [if_neg (by omega)])]), cv_RC_k hKu64 hB hR⟩
                  · skip
                    refine cv_iload C (pc' := 130) rfl (D 66 (128, .iload 6, 2) rfl) (j := 1) rfl ?_
                    refine cv_i2l C (pc' := 131) rfl (D 67 (130, .i2l, 1) rfl) (v := lN uu) (nI_l (by omega)) ?_
                    refine cv_goto C (tgt := 137) (D 68 (131, .goto 6, 3) rfl) (by decide) ?_
                    exact cv_lret C Rt (D 71 (137, .lreturn, 1) rfl) ⟨congrArg (fun z => some (Value.long z)) (by unfold cv_a_odds; rw [if_pos ⟨Or.inl (by decide), b26, b33, b42, by simpa using b52⟩, if_pos (by rw [b125]; rfl)]; simp only [cv_nt, nI_clamp (show j < 2 ^ 31 by omega), nI_clamp (show w < 2 ^ 31 by omega), show (nI 1).toNatClampNeg = 1 by decide]; rw [← hu0, show cv_hv (r + 1) uu ll = (uu, ll) from (by simp only [cv_hv]; rw [if_neg (by omega)])]), cv_RC_k hKu64 hB hR⟩
                · skip
                  refine cv_iload C (pc' := 110) rfl (D 55 (108, .iload 6, 2) rfl) (j := 1) rfl ?_
                  refine cv_iconst C (pc' := 111) rfl (D 56 (110, .iconst 2, 1) rfl) (v := nI 2) (by decide) ?_
                  refine cv_idivN C (pc' := 112) rfl (by omega) (by decide) (by decide) (D 57 (111, .idiv, 1) rfl) ?_
                  refine cv_istore C (pc' := 114) rfl (D 58 (112, .istore 6, 2) rfl) (by decide) (lv' := [(6, .int (nI (uu / 2))), (7, .int (nI ll)), (0, .ref 0), (1, .int (nI 1)), (2, .int (nI j)), (3, .int (nI w)), (4, .int (nI q)), (5, .int (nI 1))]) rfl ?_
                  refine cv_iload C (pc' := 116) rfl (D 59 (114, .iload 7, 2) rfl) (j := 1) rfl ?_
                  refine cv_iconst C (pc' := 117) rfl (D 60 (116, .iconst 2, 1) rfl) (v := nI 2) (by decide) ?_
                  refine cv_idivN C (pc' := 118) rfl (by omega) (by decide) (by decide) (D 61 (117, .idiv, 1) rfl) ?_
                  refine cv_istore C (pc' := 120) rfl (D 62 (118, .istore 7, 2) rfl) (by decide) (lv' := [(7, .int (nI (ll / 2))), (6, .int (nI (uu / 2))), (0, .ref 0), (1, .int (nI 1)), (2, .int (nI j)), (3, .int (nI w)), (4, .int (nI q)), (5, .int (nI 1))]) rfl ?_
                  refine cv_goto C (tgt := 95) (D 63 (120, .goto (-25), 3) rfl) (by decide) ?_
                  exact ih95 (uu / 2) (ll / 2) (by omega) (by omega) (by omega) (by rw [← hu0]; simp only [cv_hv]; rw [if_pos b105])
          refine cv_pick [0, 1, 3, 4, 5, 6, 7, 2] (lv' := [(7, .int (nI (2 ^ cv_pc (L 6 1)))), (6, .int (nI (cv_cnt (fun i => decide (i &&& (L 6 1 ^^^ 4294967295) = 0) && cv_can L (-1) j w i (L 6 2)) 256))), (0, .ref 0), (1, .int (nI 1)), (2, .int (nI j)), (3, .int (nI w)), (4, .int (nI q)), (5, .int (nI 1))]) rfl ?_
          exact LP95 (cv_pc (L 6 1)) (cv_cnt (fun i => decide (i &&& (L 6 1 ^^^ 4294967295) = 0) && cv_can L (-1) j w i (L 6 2)) 256) (2 ^ cv_pc (L 6 1)) rfl (cv_odb L 1 j w (by decide) (hB.2.2.2 1 (by decide))) (cv_pc_le _) (by unfold cv_odn; rfl)
        · skip
          refine cv_ldc2 C (pc' := 58) rfl wlX6_182 (D 26 (55, .ldc2_w 182, 3) rfl) ?_
          exact cv_lret C Rt (D 27 (58, .lreturn, 1) rfl) ⟨congrArg (fun z => some (Value.long z)) (by unfold cv_a_odds; rw [if_neg (fun h => by have := h.2.2.2.2; simp at b52; omega)]), hR⟩

set_option maxHeartbeats 4000000 in
set_option maxRecDepth 100000 in
theorem kX6_odds2 (tr : Int32) (ft : Nat) (sl : Nat → Option (Nat × Nat)) (sc : Nat → Nat → Int32) (L : cv_L) (rc : Nat) (rd : Nat → Nat) (rn : Nat → Option Nat) (y z w0 : Int32) (σ : cv_St) (hR : cv_RC tr ft sl sc L rc rd rn σ) (hB : cv_LB L) (hDB : cv_DB rc rd rn) : cv_Ct yX6_odds cX6_odds 8 (some .long) 5 0 0 26 cv_shC [.ref 0, .int (nI 2), .int y, .int z, .int w0] σ (fun v u => v = some (.long (cv_a_odds L (nI 2) y z w0)) ∧ cv_RC tr ft sl sc L rc rd rn u) := by
  refine cv_enter (own := RX6) (by decide) rfl (Nat.le_of_ble_eq_true rfl) ?_
  intro X a C Rt hRm
  have D := @cv_dec _ _ dkX6_odds
  obtain ⟨hTr, hFt, hSh, hL, hSe, hD⟩ := id hR
  have hn6 := hB.1
  have hrc := hDB.1
  have hgk := hB.2.2.2 2 (by decide)
  show cv_At X _ _ σ 0 [(0, .ref 0), (1, .int (nI 2)), (2, .int y), (3, .int z), (4, .int w0)] []
  refine cv_iload_n C (pc' := 1) rfl (D 0 (0, .iload_n 1, 1) rfl) rfl (j := 1) rfl ?_
  refine cv_iconst C (pc' := 2) rfl (D 1 (1, .iconst 1, 1) rfl) (v := nI 1) (by decide) ?_
  refine cv_icmp_eq C (pc' := 5) rfl (tgt := 10) (D 2 (2, .if_icmp .eq 8, 3) rfl) (by decide) (fun h => absurd h (by decide)) (fun _ => ?_)
  refine cv_iload_n C (pc' := 6) rfl (D 3 (5, .iload_n 1, 1) rfl) rfl (j := 1) rfl ?_
  refine cv_iconst C (pc' := 7) rfl (D 4 (6, .iconst 2, 1) rfl) (v := nI 2) (by decide) ?_
  refine cv_icmp_ne C (pc' := 10) rfl (tgt := 14) (D 5 (7, .if_icmp .ne 7, 3) rfl) (by decide) (fun h => absurd h (by decide)) (fun _ => ?_)
  refine cv_iconst C (pc' := 11) rfl (D 6 (10, .iconst 1, 1) rfl) (v := nI 1) (by decide) ?_
  refine cv_goto C (tgt := 15) (D 7 (11, .goto 4, 3) rfl) (by decide) ?_
  refine cv_istore C (pc' := 17) rfl (D 9 (15, .istore 5, 2) rfl) (by decide) (lv' := [(5, .int (nI 1)), (0, .ref 0), (1, .int (nI 2)), (2, .int y), (3, .int z), (4, .int w0)]) rfl ?_
  refine cv_iload C (pc' := 19) rfl (D 10 (17, .iload 5, 2) rfl) (j := 0) rfl ?_
  refine cv_if_eq C (pc' := 22) rfl (tgt := 55) (D 11 (19, .ifCond .eq 36, 3) rfl) (by decide) (fun h => absurd h (by decide)) (fun _ => ?_)
  refine cv_iload_n C (pc' := 23) rfl (D 12 (22, .iload_n 2, 1) rfl) rfl (j := 3) rfl ?_
  refine cv_callS C (pc' := 26) rfl (As := [.int y]) (rest := []) (idx := 108) (np := 1) (kX6_isDay y σ) (by decide +kernel) rfl wmX6_108 wt_yX6_isDay wn_X6 wc_yX6_isDay (by decide) (by decide) (D 13 (23, .invokestatic 108, 3) rfl) (Nat.le_of_ble_eq_true rfl) rfl (fun w9 u9 h9 => ?_)
  rw [h9.1, h9.2]
  show cv_At X _ _ σ 26 _ [.int (cv_b (cv_in y 8))]
  refine cv_if_eqB C (pc' := 29) rfl (tgt := 55) (D 14 (26, .ifCond .eq 29, 3) rfl) (by decide) (fun b26 => ?_) (fun b26 => ?_)
  · skip
    refine cv_ldc2 C (pc' := 58) rfl wlX6_182 (D 26 (55, .ldc2_w 182, 3) rfl) ?_
    exact cv_lret C Rt (D 27 (58, .lreturn, 1) rfl) ⟨congrArg (fun z => some (Value.long z)) (by unfold cv_a_odds; rw [if_neg (fun h => by rw [h.2.1] at b26; cases b26)]), hR⟩
  · skip
    refine cv_iload_n C (pc' := 30) rfl (D 15 (29, .iload_n 3, 1) rfl) rfl (j := 4) rfl ?_
    refine cv_callS C (pc' := 33) rfl (As := [.int z]) (rest := []) (idx := 108) (np := 1) (kX6_isDay z σ) (by decide +kernel) rfl wmX6_108 wt_yX6_isDay wn_X6 wc_yX6_isDay (by decide) (by decide) (D 16 (30, .invokestatic 108, 3) rfl) (Nat.le_of_ble_eq_true rfl) rfl (fun w9 u9 h9 => ?_)
    rw [h9.1, h9.2]
    show cv_At X _ _ σ 33 _ [.int (cv_b (cv_in z 8))]
    refine cv_if_eqB C (pc' := 36) rfl (tgt := 55) (D 17 (33, .ifCond .eq 22, 3) rfl) (by decide) (fun b33 => ?_) (fun b33 => ?_)
    · skip
      refine cv_ldc2 C (pc' := 58) rfl wlX6_182 (D 26 (55, .ldc2_w 182, 3) rfl) ?_
      exact cv_lret C Rt (D 27 (58, .lreturn, 1) rfl) ⟨congrArg (fun z => some (Value.long z)) (by unfold cv_a_odds; rw [if_neg (fun h => by rw [h.2.2.1] at b33; cases b33)]), hR⟩
    · skip
      refine cv_iload C (pc' := 38) rfl (D 18 (36, .iload 4, 2) rfl) (j := 5) rfl ?_
      refine cv_iconst C (pc' := 39) rfl (D 19 (38, .iconst 2, 1) rfl) (v := nI 2) (by decide) ?_
      refine cv_callS C (pc' := 42) rfl (As := [.int w0, .int (nI 2)]) (rest := []) (idx := 111) (np := 2) (kX6_isBelow w0 2 σ) (by decide +kernel) rfl wmX6_111 wt_yX6_isBelow wn_X6 wc_yX6_isBelow (by decide) (by decide) (D 20 (39, .invokestatic 111, 3) rfl) (Nat.le_of_ble_eq_true rfl) rfl (fun w9 u9 h9 => ?_)
      rw [h9.1, h9.2]
      show cv_At X _ _ σ 42 _ [.int (cv_b (cv_in w0 2))]
      refine cv_if_eqB C (pc' := 45) rfl (tgt := 55) (D 21 (42, .ifCond .eq 13, 3) rfl) (by decide) (fun b42 => ?_) (fun b42 => ?_)
      · skip
        refine cv_ldc2 C (pc' := 58) rfl wlX6_182 (D 26 (55, .ldc2_w 182, 3) rfl) ?_
        exact cv_lret C Rt (D 27 (58, .lreturn, 1) rfl) ⟨congrArg (fun z => some (Value.long z)) (by unfold cv_a_odds; rw [if_neg (fun h => by rw [h.2.2.2.1] at b42; cases b42)]), hR⟩
      · skip
        refine cv_aload_n C (pc' := 46) rfl (D 22 (45, .aload_n 0, 1) rfl) rfl (j := 1) rfl ?_
        refine cv_get C (pc' := 49) rfl (k0 := 0) (i := 1) (ci := 6) (by decide) rfl rfl (by decide) (o := some 10) rfl iw_X6 wfX6_21 (D 23 (46, .getfield 21, 3) rfl) rfl ?_
        refine cv_get C (pc' := 52) rfl (k0 := 10) (i := 5) (ci := 0) (by decide) rfl rfl (by decide) (o := none) rfl iw_X0 wfX6_115 (D 24 (49, .getfield 115, 3) rfl) (v := .int (cv_b (decide (0 < L 7 0)))) (congrArg Value.int hSe) ?_
        refine cv_if_neB C (pc' := 55) rfl (tgt := 59) (D 25 (52, .ifCond .ne 7, 3) rfl) (by decide) (fun b52 => ?_) (fun b52 => ?_)
        · skip
          obtain ⟨j, hj, rfl⟩ := cv_in_of b26 (by omega)
          obtain ⟨w, hw, rfl⟩ := cv_in_of b33 (by omega)
          obtain ⟨q, hq, rfl⟩ := cv_in_of b42 (by omega)
          refine cv_aload_n C (pc' := 60) rfl (D 28 (59, .aload_n 0, 1) rfl) rfl (j := 1) rfl ?_
          refine cv_get C (pc' := 63) rfl (k0 := 0) (i := 1) (ci := 6) (by decide) rfl rfl (by decide) (o := some 10) rfl iw_X6 wfX6_21 (D 29 (60, .getfield 21, 3) rfl) rfl ?_
          refine cv_iconst C (pc' := 64) rfl (D 30 (63, .iconst (-1), 1) rfl) (v := -1) (by decide) ?_
          refine cv_callV C (pc' := 67) rfl (k0 := 10) (ci := 0) (As := [.int (-1)]) (rest := []) (idx := 131) (np := 1) (kX0_chart L (-1) σ hL hB) (by decide) rfl rfl rfl (by decide +kernel) rfl wmX6_131 wi_yX0_chart ws_yX0_chart wn_X0 wc_yX0_chart (by decide) (by decide) (D 31 (64, .invokevirtual 131, 3) rfl) (Nat.le_of_ble_eq_true rfl) rfl (fun w64 u64 h64 => ?_)
          obtain ⟨e64, hCOu64⟩ := h64
          rw [e64]
          have hKu64 : ∀ k, k ≠ 20 → k ≠ 21 → k ≠ 22 → u64 k = σ k := fun k h _ _ => hCOu64.1 k h
          have hLu64 := cv_LC_k hKu64 hL hB
          have hTu64 := cv_TC_of hCOu64
          have hDu64 := cv_DC_k hKu64 hD
          show cv_At X _ _ u64 67 _ []
          refine cv_aload_n C (pc' := 68) rfl (D 32 (67, .aload_n 0, 1) rfl) rfl (j := 1) rfl ?_
          refine cv_get C (pc' := 71) rfl (k0 := 0) (i := 1) (ci := 6) (by decide) rfl rfl (by decide) (o := some 10) rfl iw_X6 wfX6_21 (D 33 (68, .getfield 21, 3) rfl) rfl ?_
          refine cv_iload_n C (pc' := 72) rfl (D 34 (71, .iload_n 3, 1) rfl) rfl (j := 4) rfl ?_
          refine cv_iload_n C (pc' := 73) rfl (D 35 (72, .iload_n 2, 1) rfl) rfl (j := 3) rfl ?_
          refine cv_iload_n C (pc' := 74) rfl (D 36 (73, .iload_n 1, 1) rfl) rfl (j := 2) rfl ?_
          refine cv_callV C (pc' := 77) rfl (k0 := 10) (ci := 0) (As := [.int (nI w), .int (nI j), .int (nI 2)]) (rest := []) (idx := 184) (np := 3) (kX0_setsDoneBy2 L (cv_RT L (fun q => decide (nI q = -1)) 8) w j u64 hLu64 hB hTu64 (by omega) (by omega)) (by decide) rfl rfl rfl (by decide +kernel) rfl wmX6_184 wi_yX0_setsDoneBy ws_yX0_setsDoneBy wn_X0 wc_yX0_setsDoneBy (by decide) (by decide) (D 37 (74, .invokevirtual 184, 3) rfl) (Nat.le_of_ble_eq_true rfl) rfl (fun w9 u9 h9 => ?_)
          rw [h9.1, h9.2]
          show cv_At X _ _ u64 77 _ [.int (nI (cv_cnt (fun i => decide (i &&& (L 6 2 ^^^ 4294967295) = 0) && cv_can L (-1) j w (L 6 1) i) 256))]
          refine cv_istore C (pc' := 79) rfl (D 38 (77, .istore 6, 2) rfl) (by decide) (lv' := [(6, .int (nI (cv_cnt (fun i => decide (i &&& (L 6 2 ^^^ 4294967295) = 0) && cv_can L (-1) j w (L 6 1) i) 256))), (5, .int (nI 1)), (0, .ref 0), (1, .int (nI 2)), (2, .int (nI j)), (3, .int (nI w)), (4, .int (nI q))]) rfl ?_
          refine cv_iconst C (pc' := 80) rfl (D 39 (79, .iconst 1, 1) rfl) (v := nI 1) (by decide) ?_
          refine cv_aload_n C (pc' := 81) rfl (D 40 (80, .aload_n 0, 1) rfl) rfl (j := 2) rfl ?_
          refine cv_get C (pc' := 84) rfl (k0 := 0) (i := 1) (ci := 6) (by decide) rfl rfl (by decide) (o := some 10) rfl iw_X6 wfX6_21 (D 41 (81, .getfield 21, 3) rfl) rfl ?_
          refine cv_get C (pc' := 87) rfl (k0 := 10) (i := 2) (ci := 0) (by decide) rfl rfl (by decide) (o := some 19) rfl iw_X0 wfX6_125 (D 42 (84, .getfield 125, 3) rfl) rfl ?_
          refine cv_iload_n C (pc' := 88) rfl (D 43 (87, .iload_n 1, 1) rfl) rfl (j := 3) rfl ?_
          refine cv_iald C (pc' := 89) rfl (k0 := 19) (j := 2) (by decide) rfl rfl (by omega) (by decide) (D 44 (88, .iaload, 1) rfl) (v := nI (L 6 2)) (hLu64.2.2.1 _ (by omega)) ?_
          refine cv_callS C (pc' := 92) rfl (As := [.int (nI (L 6 2))]) (rest := [.int (nI 1)]) (idx := 187) (np := 1) (kJ6_bitCount (nI (L 6 2)) u64) (by decide +kernel) rfl wmX6_187 wt_yJ6_bitCount_0f7a4 wn_J6 wc_yJ6_bitCount_0f7a4 (by decide) (by decide) (D 45 (89, .invokestatic 187, 3) rfl) (Nat.le_of_ble_eq_true rfl) rfl (fun w9 u9 h9 => ?_)
          rw [h9.1, h9.2]
          show cv_At X _ _ u64 92 _ [.int (cv_bcx (nI (L 6 2))), .int (nI 1)]
          refine cv_ishl C (pc' := 93) rfl (D 46 (92, .ishl, 1) rfl) ?_
          refine cv_top (w := nI (2 ^ cv_pc (L 6 2))) (by rw [cv_bcx8 _ hgk]; exact cv_shl1 (by have := cv_pc_le (L 6 2); omega)) ?_
          refine cv_istore C (pc' := 95) rfl (D 47 (93, .istore 7, 2) rfl) (by decide) (lv' := [(7, .int (nI (2 ^ cv_pc (L 6 2)))), (6, .int (nI (cv_cnt (fun i => decide (i &&& (L 6 2 ^^^ 4294967295) = 0) && cv_can L (-1) j w (L 6 1) i) 256))), (5, .int (nI 1)), (0, .ref 0), (1, .int (nI 2)), (2, .int (nI j)), (3, .int (nI w)), (4, .int (nI q))]) rfl ?_
          have LP95 : ∀ (r : Nat) (uu : Nat) (ll : Nat), (ll = 2 ^ r) → (uu ≤ 2 ^ r) → (r ≤ 8) → (cv_hv r uu ll = cv_hv (cv_pc (L 6 2)) (cv_odn L 2 j w) (2 ^ cv_pc (L 6 2))) → cv_At X (26, cv_shC, 0, 0, a) 8 u64 95 [(7, .int (nI ll)), (6, .int (nI uu)), (0, .ref 0), (1, .int (nI 2)), (2, .int (nI j)), (3, .int (nI w)), (4, .int (nI q)), (5, .int (nI 1))] [] := by
            intro r
            induction r with
            | zero =>
              intro uu ll hll huu hr8 hu0
              have h2r : 2 ^ 0 = 1 := rfl
              refine cv_iload C (pc' := 97) rfl (D 48 (95, .iload 7, 2) rfl) (j := 0) rfl ?_
              refine cv_iconst C (pc' := 98) rfl (D 49 (97, .iconst 1, 1) rfl) (v := nI 1) (by decide) ?_
              refine cv_icmp_leN C (pc' := 101) rfl (by omega) (by omega) (tgt := 123) (D 50 (98, .if_icmp .le 25, 3) rfl) (by decide) (fun b98 => ?_) (fun b98 => ?_)
              · skip
                refine cv_iload C (pc' := 125) rfl (D 64 (123, .iload 4, 2) rfl) (j := 6) rfl ?_
                refine cv_if_neN C (pc' := 128) rfl (by omega) (tgt := 134) (D 65 (125, .ifCond .ne 9, 3) rfl) (by decide) (fun b125 => ?_) (fun b125 => ?_)
                · skip
                  refine cv_iload C (pc' := 136) rfl (D 69 (134, .iload 7, 2) rfl) (j := 0) rfl ?_
                  refine cv_i2l C (pc' := 137) rfl (D 70 (136, .i2l, 1) rfl) (v := lN ll) (nI_l (by omega)) ?_
                  exact cv_lret C Rt (D 71 (137, .lreturn, 1) rfl) ⟨congrArg (fun z => some (Value.long z)) (by unfold cv_a_odds; rw [if_pos ⟨Or.inr (by decide), b26, b33, b42, by simpa using b52⟩, if_neg (fun h => by rw [← nI_0] at h; have := (nI_eq (by omega) (by omega)).mp h; omega)]; simp only [cv_nt, nI_clamp (show j < 2 ^ 31 by omega), nI_clamp (show w < 2 ^ 31 by omega), show (nI 2).toNatClampNeg = 2 by decide]; rw [← hu0, show cv_hv 0 uu ll = (uu, ll) from rfl]), cv_RC_k hKu64 hB hR⟩
                · skip
                  refine cv_iload C (pc' := 130) rfl (D 66 (128, .iload 6, 2) rfl) (j := 1) rfl ?_
                  refine cv_i2l C (pc' := 131) rfl (D 67 (130, .i2l, 1) rfl) (v := lN uu) (nI_l (by omega)) ?_
                  refine cv_goto C (tgt := 137) (D 68 (131, .goto 6, 3) rfl) (by decide) ?_
                  exact cv_lret C Rt (D 71 (137, .lreturn, 1) rfl) ⟨congrArg (fun z => some (Value.long z)) (by unfold cv_a_odds; rw [if_pos ⟨Or.inr (by decide), b26, b33, b42, by simpa using b52⟩, if_pos (by rw [b125]; rfl)]; simp only [cv_nt, nI_clamp (show j < 2 ^ 31 by omega), nI_clamp (show w < 2 ^ 31 by omega), show (nI 2).toNatClampNeg = 2 by decide]; rw [← hu0, show cv_hv 0 uu ll = (uu, ll) from rfl]), cv_RC_k hKu64 hB hR⟩
              · skip
                omega
            | succ r ih95 =>
              intro uu ll hll huu hr8 hu0
              have h2r : 2 ^ (r + 1) = 2 * 2 ^ r := by rw [Nat.pow_succ]; omega
              have h2p : 2 ^ r ≤ 2 ^ 8 := Nat.pow_le_pow_right (by decide) (by omega)
              have h2q : 1 ≤ 2 ^ r := Nat.one_le_two_pow
              refine cv_iload C (pc' := 97) rfl (D 48 (95, .iload 7, 2) rfl) (j := 0) rfl ?_
              refine cv_iconst C (pc' := 98) rfl (D 49 (97, .iconst 1, 1) rfl) (v := nI 1) (by decide) ?_
              refine cv_icmp_leN C (pc' := 101) rfl (by omega) (by omega) (tgt := 123) (D 50 (98, .if_icmp .le 25, 3) rfl) (by decide) (fun b98 => ?_) (fun b98 => ?_)
              · skip
                omega
              · skip
                refine cv_iload C (pc' := 103) rfl (D 51 (101, .iload 6, 2) rfl) (j := 1) rfl ?_
                refine cv_iconst C (pc' := 104) rfl (D 52 (103, .iconst 2, 1) rfl) (v := nI 2) (by decide) ?_
                refine cv_iremN C (pc' := 105) rfl (by omega) (by decide) (by decide) (D 53 (104, .irem, 1) rfl) ?_
                refine cv_if_neN C (pc' := 108) rfl (by omega) (tgt := 123) (D 54 (105, .ifCond .ne 18, 3) rfl) (by decide) (fun b105 => ?_) (fun b105 => ?_)
                · skip
                  refine cv_iload C (pc' := 125) rfl (D 64 (123, .iload 4, 2) rfl) (j := 6) rfl ?_
                  refine cv_if_neN C (pc' := 128) rfl (by omega) (tgt := 134) (D 65 (125, .ifCond .ne 9, 3) rfl) (by decide) (fun b125 => ?_) (fun b125 => ?_)
                  · skip
                    refine cv_iload C (pc' := 136) rfl (D 69 (134, .iload 7, 2) rfl) (j := 0) rfl ?_
                    refine cv_i2l C (pc' := 137) rfl (D 70 (136, .i2l, 1) rfl) (v := lN ll) (nI_l (by omega)) ?_
                    exact cv_lret C Rt (D 71 (137, .lreturn, 1) rfl) ⟨congrArg (fun z => some (Value.long z)) (by unfold cv_a_odds; rw [if_pos ⟨Or.inr (by decide), b26, b33, b42, by simpa using b52⟩, if_neg (fun h => by rw [← nI_0] at h; have := (nI_eq (by omega) (by omega)).mp h; omega)]; simp only [cv_nt, nI_clamp (show j < 2 ^ 31 by omega), nI_clamp (show w < 2 ^ 31 by omega), show (nI 2).toNatClampNeg = 2 by decide]; rw [← hu0, show cv_hv (r + 1) uu ll = (uu, ll) from (by simp only [cv_hv]; rw [if_neg (by omega)])]), cv_RC_k hKu64 hB hR⟩
                  · skip
                    refine cv_iload C (pc' := 130) rfl (D 66 (128, .iload 6, 2) rfl) (j := 1) rfl ?_
                    refine cv_i2l C (pc' := 131) rfl (D 67 (130, .i2l, 1) rfl) (v := lN uu) (nI_l (by omega)) ?_
                    refine cv_goto C (tgt := 137) (D 68 (131, .goto 6, 3) rfl) (by decide) ?_
                    exact cv_lret C Rt (D 71 (137, .lreturn, 1) rfl) ⟨congrArg (fun z => some (Value.long z)) (by unfold cv_a_odds; rw [if_pos ⟨Or.inr (by decide), b26, b33, b42, by simpa using b52⟩, if_pos (by rw [b125]; rfl)]; simp only [cv_nt, nI_clamp (show j < 2 ^ 31 by omega), nI_clamp (show w < 2 ^ 31 by omega), show (nI 2).toNatClampNeg = 2 by decide]; rw [← hu0, show cv_hv (r + 1) uu ll = (uu, ll) from (by simp only [cv_hv]; rw [if_neg (by omega)])]), cv_RC_k hKu64 hB hR⟩
                · skip
                  refine cv_iload C (pc' := 110) rfl (D 55 (108, .iload 6, 2) rfl) (j := 1) rfl ?_
                  refine cv_iconst C (pc' := 111) rfl (D 56 (110, .iconst 2, 1) rfl) (v := nI 2) (by decide) ?_
                  refine cv_idivN C (pc' := 112) rfl (by omega) (by decide) (by decide) (D 57 (111, .idiv, 1) rfl) ?_
                  refine cv_istore C (pc' := 114) rfl (D 58 (112, .istore 6, 2) rfl) (by decide) (lv' := [(6, .int (nI (uu / 2))), (7, .int (nI ll)), (0, .ref 0), (1, .int (nI 2)), (2, .int (nI j)), (3, .int (nI w)), (4, .int (nI q)), (5, .int (nI 1))]) rfl ?_
                  refine cv_iload C (pc' := 116) rfl (D 59 (114, .iload 7, 2) rfl) (j := 1) rfl ?_
                  refine cv_iconst C (pc' := 117) rfl (D 60 (116, .iconst 2, 1) rfl) (v := nI 2) (by decide) ?_
                  refine cv_idivN C (pc' := 118) rfl (by omega) (by decide) (by decide) (D 61 (117, .idiv, 1) rfl) ?_
                  refine cv_istore C (pc' := 120) rfl (D 62 (118, .istore 7, 2) rfl) (by decide) (lv' := [(7, .int (nI (ll / 2))), (6, .int (nI (uu / 2))), (0, .ref 0), (1, .int (nI 2)), (2, .int (nI j)), (3, .int (nI w)), (4, .int (nI q)), (5, .int (nI 1))]) rfl ?_
                  refine cv_goto C (tgt := 95) (D 63 (120, .goto (-25), 3) rfl) (by decide) ?_
                  exact ih95 (uu / 2) (ll / 2) (by omega) (by omega) (by omega) (by rw [← hu0]; simp only [cv_hv]; rw [if_pos b105])
          refine cv_pick [0, 1, 3, 4, 5, 6, 7, 2] (lv' := [(7, .int (nI (2 ^ cv_pc (L 6 2)))), (6, .int (nI (cv_cnt (fun i => decide (i &&& (L 6 2 ^^^ 4294967295) = 0) && cv_can L (-1) j w (L 6 1) i) 256))), (0, .ref 0), (1, .int (nI 2)), (2, .int (nI j)), (3, .int (nI w)), (4, .int (nI q)), (5, .int (nI 1))]) rfl ?_
          exact LP95 (cv_pc (L 6 2)) (cv_cnt (fun i => decide (i &&& (L 6 2 ^^^ 4294967295) = 0) && cv_can L (-1) j w (L 6 1) i) 256) (2 ^ cv_pc (L 6 2)) rfl (cv_odb L 2 j w (by decide) (hB.2.2.2 2 (by decide))) (cv_pc_le _) (by unfold cv_odn; rfl)
        · skip
          refine cv_ldc2 C (pc' := 58) rfl wlX6_182 (D 26 (55, .ldc2_w 182, 3) rfl) ?_
          exact cv_lret C Rt (D 27 (58, .lreturn, 1) rfl) ⟨congrArg (fun z => some (Value.long z)) (by unfold cv_a_odds; rw [if_neg (fun h => by have := h.2.2.2.2; simp at b52; omega)]), hR⟩

theorem pX6_odds (tr : Int32) (ft : Nat) (sl : Nat → Option (Nat × Nat)) (sc : Nat → Nat → Int32) (L : cv_L) (rc : Nat) (rd : Nat → Nat) (rn : Nat → Option Nat) (x y z w0 : Int32) (σ : cv_St) (hR : cv_RC tr ft sl sc L rc rd rn σ) (hB : cv_LB L) (hDB : cv_DB rc rd rn) : cv_Ct yX6_odds cX6_odds 8 (some .long) 5 0 0 26 cv_shC [.ref 0, .int x, .int y, .int z, .int w0] σ (fun v u => v = some (.long (cv_a_odds L x y z w0)) ∧ cv_RC tr ft sl sc L rc rd rn u) := by
  by_cases h1 : x = 1
  · subst h1; exact kX6_odds1 tr ft sl sc L rc rd rn y z w0 σ hR hB hDB
  · by_cases h2 : x = 2
    · subst h2; exact kX6_odds2 tr ft sl sc L rc rd rn y z w0 σ hR hB hDB
    · exact kX6_odds0 tr ft sl sc L rc rd rn x y z w0 σ hR hB hDB h1 h2
