set_option maxHeartbeats 4000000 in
set_option maxRecDepth 100000 in
theorem kX0_chart (L : cv_L) (x : Int32) (σ : cv_St) (hL : cv_LC L σ) (hB : cv_LB L) : cv_Ct yX0_chart cX0_chart 4 none 3 0 0 26 cv_shC [.ref 10, .int x] σ (fun v u => v = none ∧ cv_CO L (fun q => decide (nI q = x)) σ u 0) := by
  refine cv_enter (own := RX0) (by decide) rfl (Nat.le_of_ble_eq_true rfl) ?_
  intro X a C Rt hRm
  have D := @cv_dec _ _ dkX0_chart
  show cv_At X _ _ σ 0 [(0, .ref 10), (1, .int x)] []
  refine cv_bipush C (pc' := 2) rfl (D 0 (0, .bipush 7, 2) rfl) (v := nI 7) (by decide) ?_
  refine cv_istore_n C (pc' := 3) rfl (D 1 (2, .istore_n 2, 1) rfl) rfl (by decide) (lv' := [(2, .int (nI 7)), (0, .ref 10), (1, .int x)]) rfl ?_
  have LP3 : ∀ (j : Nat) (τ : cv_St), (j ≤ 8) → (cv_CO L (fun q => decide (nI q = x)) σ τ j) → cv_At X (26, cv_shC, 0, 0, a) 4 τ 3 [(2, .int (cv_dn j)), (0, .ref 10), (1, .int x)] [] := by
    intro j
    induction j with
    | zero =>
      intro τ hj hI
      show cv_At X _ _ τ 3 [(2, .int (-1)), (0, .ref 10), (1, .int x)] []
      refine cv_iload_n C (pc' := 4) rfl (D 2 (3, .iload_n 2, 1) rfl) rfl (j := 0) rfl ?_
      refine cv_if_lt C (pc' := 7) rfl (tgt := 43) (D 3 (4, .ifCond .lt 39, 3) rfl) (by decide) (fun _ => ?_) (fun h => absurd h (by decide))
      exact cv_vret C Rt (D 26 (43, .return_, 1) rfl) ⟨rfl, hI⟩
    | succ j ih3 =>
      intro τ hj hI
      show cv_At X _ _ τ 3 [(2, .int (nI j)), (0, .ref 10), (1, .int x)] []
      refine cv_iload_n C (pc' := 4) rfl (D 2 (3, .iload_n 2, 1) rfl) rfl (j := 0) rfl ?_
      refine cv_if_lt C (pc' := 7) rfl (tgt := 43) (D 3 (4, .ifCond .lt 39, 3) rfl) (by decide) (fun b4 => ?_) (fun b4 => ?_)
      · skip
        exact absurd b4 (nI_pos (by omega))
      · skip
        refine cv_iconst C (pc' := 8) rfl (D 4 (7, .iconst 0, 1) rfl) (v := nI 0) (by decide) ?_
        refine cv_istore_n C (pc' := 9) rfl (D 5 (8, .istore_n 3, 1) rfl) rfl (by decide) (lv' := [(3, .int (nI 0)), (2, .int (nI j)), (0, .ref 10), (1, .int x)]) rfl ?_
        have LP9 : ∀ (r : Nat) (v : Nat) (τ2 : cv_St), (v + r = 3) → (cv_CI L (fun q => decide (nI q = x)) σ τ2 j v) → cv_At X (26, cv_shC, 0, 0, a) 4 τ2 9 [(3, .int (nI v)), (2, .int (nI j)), (0, .ref 10), (1, .int x)] [] := by
          intro r
          induction r with
          | zero =>
            intro v τ2 hr hI2
            obtain rfl : v = 3 := by omega
            refine cv_iload_n C (pc' := 10) rfl (D 6 (9, .iload_n 3, 1) rfl) rfl (j := 0) rfl ?_
            refine cv_iconst C (pc' := 11) rfl (D 7 (10, .iconst 3, 1) rfl) (v := nI 3) (by decide) ?_
            refine cv_icmp_ge C (pc' := 14) rfl (tgt := 37) (D 8 (11, .if_icmp .ge 26, 3) rfl) (by decide) (fun _ => ?_) (fun h => absurd h (by decide))
            refine cv_iinc C (pc' := 40) rfl (D 24 (37, .iinc 2 (-1), 3) rfl) (j := 1) rfl (v := cv_dn j) (cv_dn_dec j) (by decide) (lv' := [(2, .int (cv_dn j)), (3, .int (nI 3)), (0, .ref 10), (1, .int x)]) rfl ?_
            refine cv_goto C (tgt := 3) (D 25 (40, .goto (-37), 3) rfl) (by decide) ?_
            refine cv_pick [0, 2, 3] (lv' := [(2, .int (cv_dn j)), (0, .ref 10), (1, .int x)]) rfl ?_
            exact ih3 τ2 (by omega) (cv_CO_s hI2 (by omega))
          | succ r ih9 =>
            intro v τ2 hr hI2
            have hLτ2 : cv_LC L τ2 := cv_LC_k (fun k h _ _ => hI2.1 k h) hL hB
            refine cv_iload_n C (pc' := 10) rfl (D 6 (9, .iload_n 3, 1) rfl) rfl (j := 0) rfl ?_
            refine cv_iconst C (pc' := 11) rfl (D 7 (10, .iconst 3, 1) rfl) (v := nI 3) (by decide) ?_
            refine cv_icmp_geN C (pc' := 14) rfl (by omega) (by omega) (tgt := 37) (D 8 (11, .if_icmp .ge 26, 3) rfl) (by decide) (fun b11 => ?_) (fun b11 => ?_)
            · skip
              omega
            · skip
              refine cv_aload_n C (pc' := 15) rfl (D 9 (14, .aload_n 0, 1) rfl) rfl (j := 2) rfl ?_
              refine cv_get C (pc' := 18) rfl (k0 := 10) (i := 3) (ci := 0) (by decide) rfl rfl (by decide) (o := some 20) rfl iw_X0 wfX0_24 (D 10 (15, .getfield 24, 3) rfl) rfl ?_
              refine cv_iload_n C (pc' := 19) rfl (D 11 (18, .iload_n 2, 1) rfl) rfl (j := 1) rfl ?_
              refine cv_iconst C (pc' := 20) rfl (D 12 (19, .iconst 3, 1) rfl) (v := nI 3) (by decide) ?_
              refine cv_imulN C (pc' := 21) rfl (D 13 (20, .imul, 1) rfl) ?_
              refine cv_iload_n C (pc' := 22) rfl (D 14 (21, .iload_n 3, 1) rfl) rfl (j := 0) rfl ?_
              refine cv_iaddN C (pc' := 23) rfl (D 15 (22, .iadd, 1) rfl) ?_
              refine cv_aload_n C (pc' := 24) rfl (D 16 (23, .aload_n 0, 1) rfl) rfl (j := 2) rfl ?_
              refine cv_iload_n C (pc' := 25) rfl (D 17 (24, .iload_n 3, 1) rfl) rfl (j := 0) rfl ?_
              refine cv_iload_n C (pc' := 26) rfl (D 18 (25, .iload_n 2, 1) rfl) rfl (j := 1) rfl ?_
              refine cv_iload_n C (pc' := 27) rfl (D 19 (26, .iload_n 1, 1) rfl) rfl (j := 3) rfl ?_
              refine cv_callV C (pc' := 30) rfl (k0 := 10) (ci := 0) (As := [.int (nI v), .int (nI j), .int x]) (rest := [.int (nI ((j * 3) + v)), .ref 20]) (idx := 88) (np := 3) (kX0_reachFrom L (cv_RT L (fun q => decide (nI q = x)) (7 - j)) v j x τ2 hLτ2 hB (by omega) (by omega) (fun i h1 h2 => hI2.2.1 i h2 h1)) (by decide) rfl rfl rfl (by decide +kernel) rfl wmX0_88 wi_yX0_reachFrom ws_yX0_reachFrom wn_X0 wc_yX0_reachFrom (by decide) (by decide) (D 20 (27, .invokevirtual 88, 3) rfl) (Nat.le_of_ble_eq_true rfl) rfl (fun w9 u9 h9 => ?_)
              rw [h9.1, h9.2]
              show cv_At X _ _ τ2 30 _ [.int (nI (cv_rv L (fun q => decide (nI q = x)) (cv_RT L (fun q => decide (nI q = x)) (7 - j)) v j)), .int (nI ((j * 3) + v)), .ref 20]
              refine cv_iast C (pc' := 31) rfl (k0 := 20) (j := (j * 3) + v) (by decide) rfl rfl (by omega) (by decide) (D 21 (30, .iastore, 1) rfl) ?_
              refine cv_iincN C (pc' := 34) rfl (D 22 (31, .iinc 3 1, 3) rfl) (j := 0) rfl (by decide) (lv' := [(3, .int (nI (v + 1))), (2, .int (nI j)), (0, .ref 10), (1, .int x)]) rfl ?_
              refine cv_goto C (tgt := 9) (D 23 (34, .goto (-25), 3) rfl) (by decide) ?_
              exact ih9 (v + 1) (cv_u τ2 20 ((j * 3) + v) (nI (cv_rv L (fun q => decide (nI q = x)) (cv_RT L (fun q => decide (nI q = x)) (7 - j)) v j))) (by omega) (cv_CI_s hI2 (by omega) (by omega))
        exact LP9 3 0 τ (by decide) (cv_CI_0 hI)
  exact LP3 8 σ (by decide) (cv_CO_0 L _ σ)

set_option maxHeartbeats 4000000 in
set_option maxRecDepth 100000 in
theorem kX0_firstDayIn (f : Nat → Nat) (w v d t : Nat) (σ : cv_St) (hT : cv_TC f σ) (hw : w < 3) (hv : v < 3) (hd : d < 8) (ht : t < 2 ^ 31) : cv_Ct yX0_firstDayIn cX0_firstDayIn 7 (some .int) 1 0 0 26 cv_shC [.ref 10, .int (nI w), .int (nI v), .int (nI d), .int (nI t)] σ (cv_pu (.int (cv_o (cv_fi f w v d t))) σ) := by
  refine cv_enter (own := RX0) (by decide) rfl (Nat.le_of_ble_eq_true rfl) ?_
  intro X a C Rt hRm
  have D := @cv_dec _ _ dkX0_firstDayIn
  show cv_At X _ _ σ 0 [(0, .ref 10), (1, .int (nI w)), (2, .int (nI v)), (3, .int (nI d)), (4, .int (nI t))] []
  refine cv_aload_n C (pc' := 1) rfl (D 0 (0, .aload_n 0, 1) rfl) rfl (j := 0) rfl ?_
  refine cv_get C (pc' := 4) rfl (k0 := 10) (i := 3) (ci := 0) (by decide) rfl rfl (by decide) (o := some 20) rfl iw_X0 wfX0_24 (D 1 (1, .getfield 24, 3) rfl) rfl ?_
  refine cv_iload_n C (pc' := 5) rfl (D 2 (4, .iload_n 3, 1) rfl) rfl (j := 3) rfl ?_
  refine cv_iconst C (pc' := 6) rfl (D 3 (5, .iconst 3, 1) rfl) (v := nI 3) (by decide) ?_
  refine cv_imulN C (pc' := 7) rfl (D 4 (6, .imul, 1) rfl) ?_
  refine cv_iload_n C (pc' := 8) rfl (D 5 (7, .iload_n 2, 1) rfl) rfl (j := 2) rfl ?_
  refine cv_iaddN C (pc' := 9) rfl (D 6 (8, .iadd, 1) rfl) ?_
  refine cv_iald C (pc' := 10) rfl (k0 := 20) (j := (d * 3) + v) (by decide) rfl rfl (by omega) (by decide) (D 7 (9, .iaload, 1) rfl) (v := nI (f ((d * 3) + v))) (hT _ (by omega)).1 ?_
  refine cv_bipush C (pc' := 12) rfl (D 8 (10, .bipush 8, 2) rfl) (v := nI 8) (by decide) ?_
  refine cv_iload_n C (pc' := 13) rfl (D 9 (12, .iload_n 1, 1) rfl) rfl (j := 1) rfl ?_
  refine cv_imulN C (pc' := 14) rfl (D 10 (13, .imul, 1) rfl) ?_
  refine cv_ishrN C (pc' := 15) rfl (hT _ (by omega)).2 (by omega) (D 11 (14, .ishr, 1) rfl) ?_
  refine cv_iload C (pc' := 17) rfl (D 12 (15, .iload 4, 2) rfl) (j := 4) rfl ?_
  refine cv_iandN C (pc' := 18) rfl (D 13 (17, .iand, 1) rfl) ?_
  refine cv_istore C (pc' := 20) rfl (D 14 (18, .istore 5, 2) rfl) (by decide) (lv' := [(5, .int (nI (((f ((d * 3) + v)) / 2 ^ (8 * w)) &&& t))), (0, .ref 10), (1, .int (nI w)), (2, .int (nI v)), (3, .int (nI d)), (4, .int (nI t))]) rfl ?_
  obtain ⟨t0, ht0⟩ : ∃ z, z = ((f ((d * 3) + v)) / 2 ^ (8 * w)) &&& t := ⟨_, rfl⟩
  rw [← ht0]
  have ht1 : t0 < 2 ^ 31 := by rw [ht0]; exact Nat.lt_of_le_of_lt Nat.and_le_right ht
  refine cv_iconst C (pc' := 21) rfl (D 15 (20, .iconst 0, 1) rfl) (v := nI 0) (by decide) ?_
  refine cv_istore C (pc' := 23) rfl (D 16 (21, .istore 6, 2) rfl) (by decide) (lv' := [(6, .int (nI 0)), (5, .int (nI t0)), (0, .ref 10), (1, .int (nI w)), (2, .int (nI v)), (3, .int (nI d)), (4, .int (nI t))]) rfl ?_
  have LP23 : ∀ (r : Nat) (i : Nat), (i + r = 8) → (∀ q, q < i → t0.testBit q = false) → cv_At X (26, cv_shC, 0, 0, a) 7 σ 23 [(6, .int (nI i)), (5, .int (nI t0))] [] := by
    intro r
    induction r with
    | zero =>
      intro i hr h0
      obtain rfl : i = 8 := by omega
      refine cv_iload C (pc' := 25) rfl (D 17 (23, .iload 6, 2) rfl) (j := 0) rfl ?_
      refine cv_bipush C (pc' := 27) rfl (D 18 (25, .bipush 8, 2) rfl) (v := nI 8) (by decide) ?_
      refine cv_icmp_ge C (pc' := 30) rfl (tgt := 49) (D 19 (27, .if_icmp .ge 22, 3) rfl) (by decide) (fun _ => ?_) (fun h => absurd h (by decide))
      refine cv_bipush C (pc' := 51) rfl (D 28 (49, .bipush (-9), 2) rfl) (v := -9) (by decide) ?_
      exact cv_iret C Rt rfl (D 29 (51, .ireturn, 1) rfl) ⟨congrArg (fun z => some (Value.int z)) (by unfold cv_fi; rw [← ht0, cv_fd_none h0]; rfl), rfl⟩
    | succ r ih23 =>
      intro i hr h0
      refine cv_iload C (pc' := 25) rfl (D 17 (23, .iload 6, 2) rfl) (j := 0) rfl ?_
      refine cv_bipush C (pc' := 27) rfl (D 18 (25, .bipush 8, 2) rfl) (v := nI 8) (by decide) ?_
      refine cv_icmp_geN C (pc' := 30) rfl (by omega) (by omega) (tgt := 49) (D 19 (27, .if_icmp .ge 22, 3) rfl) (by decide) (fun b27 => ?_) (fun b27 => ?_)
      · skip
        omega
      · skip
        refine cv_iload C (pc' := 32) rfl (D 20 (30, .iload 5, 2) rfl) (j := 1) rfl ?_
        refine cv_iload C (pc' := 34) rfl (D 21 (32, .iload 6, 2) rfl) (j := 0) rfl ?_
        refine cv_callSN C (pc' := 37) rfl (As := [.int (nI t0), .int (nI i)]) (rest := []) (idx := 96) (np := 2) (kX6_hasDay t0 i σ (by omega) (by omega)) (by decide +kernel) rfl weX0_96 wt_yX6_hasDay wn_X6 wc_yX6_hasDay (by decide) (by decide) (D 22 (34, .invokestatic 96, 3) rfl) (Nat.le_of_ble_eq_true rfl) rfl (fun w9 u9 h9 => ?_)
        rw [h9.1, h9.2]
        show cv_At X _ _ σ 37 _ [.int (cv_b (t0.testBit i))]
        refine cv_if_eqB C (pc' := 40) rfl (tgt := 43) (D 23 (37, .ifCond .eq 6, 3) rfl) (by decide) (fun b37 => ?_) (fun b37 => ?_)
        · skip
          refine cv_iincN C (pc' := 46) rfl (D 26 (43, .iinc 6 1, 3) rfl) (j := 0) rfl (by decide) (lv' := [(6, .int (nI (i + 1))), (5, .int (nI t0))]) rfl ?_
          refine cv_goto C (tgt := 23) (D 27 (46, .goto (-23), 3) rfl) (by decide) ?_
          exact ih23 (i + 1) (by omega) (fun q h => by rcases Nat.lt_succ_iff_lt_or_eq.mp h with h | h; exact h0 q h; rw [h]; exact b37)
        · skip
          refine cv_iload C (pc' := 42) rfl (D 24 (40, .iload 6, 2) rfl) (j := 0) rfl ?_
          exact cv_iret C Rt rfl (D 25 (42, .ireturn, 1) rfl) ⟨congrArg (fun z => some (Value.int z)) (by unfold cv_fi; rw [← ht0, cv_fd_some (by omega) b37 h0]; rfl), rfl⟩
  refine cv_pick [0, 1] (lv' := [(6, .int (nI 0)), (5, .int (nI t0))]) rfl ?_
  exact LP23 8 0 (by decide) (fun q h => by omega)

set_option maxHeartbeats 4000000 in
set_option maxRecDepth 100000 in
theorem kX0_doneWith (L : cv_L) (f : Nat → Nat) (d q t : Nat) (σ : cv_St) (hL : cv_LC L σ) (hB : cv_LB L) (hT : cv_TC f σ) (hd : d < 8) (hq : q < 2 ^ 31) (ht : t < 2 ^ 31) : cv_Ct yX0_doneWith cX0_doneWith 5 (some .int) 2 0 0 26 cv_shC [.ref 10, .int (nI d), .int (nI q), .int (nI t)] σ (cv_pu (.int (cv_o (cv_dw f (L 6 0) d q t))) σ) := by
  refine cv_enter (own := RX0) (by decide) rfl (Nat.le_of_ble_eq_true rfl) ?_
  intro X a C Rt hRm
  have D := @cv_dec _ _ dkX0_doneWith
  have hg := hB.2.2.2 0 (by decide)
  show cv_At X _ _ σ 0 [(0, .ref 10), (1, .int (nI d)), (2, .int (nI q)), (3, .int (nI t))] []
  refine cv_aload_n C (pc' := 1) rfl (D 0 (0, .aload_n 0, 1) rfl) rfl (j := 0) rfl ?_
  refine cv_get C (pc' := 4) rfl (k0 := 10) (i := 2) (ci := 0) (by decide) rfl rfl (by decide) (o := some 19) rfl iw_X0 wfX0_21 (D 1 (1, .getfield 21, 3) rfl) rfl ?_
  refine cv_iconst C (pc' := 5) rfl (D 2 (4, .iconst 0, 1) rfl) (v := nI 0) (by decide) ?_
  refine cv_iald C (pc' := 6) rfl (k0 := 19) (j := 0) (by decide) rfl rfl (by omega) (by decide) (D 3 (5, .iaload, 1) rfl) (v := nI (L 6 0)) (hL.2.2.1 _ (by omega)) ?_
  refine cv_iload_n C (pc' := 7) rfl (D 4 (6, .iload_n 1, 1) rfl) rfl (j := 1) rfl ?_
  refine cv_callSN C (pc' := 10) rfl (As := [.int (nI (L 6 0)), .int (nI d)]) (rest := []) (idx := 96) (np := 2) (kX6_hasDay (L 6 0) d σ (by omega) (by omega)) (by decide +kernel) rfl weX0_96 wt_yX6_hasDay wn_X6 wc_yX6_hasDay (by decide) (by decide) (D 5 (7, .invokestatic 96, 3) rfl) (Nat.le_of_ble_eq_true rfl) rfl (fun w9 u9 h9 => ?_)
  rw [h9.1, h9.2]
  show cv_At X _ _ σ 10 _ [.int (cv_b ((L 6 0).testBit d))]
  refine cv_if_neB C (pc' := 13) rfl (tgt := 16) (D 6 (10, .ifCond .ne 6, 3) rfl) (by decide) (fun b10 => ?_) (fun b10 => ?_)
  · skip
    refine cv_aload_n C (pc' := 17) rfl (D 9 (16, .aload_n 0, 1) rfl) rfl (j := 0) rfl ?_
    refine cv_iconst C (pc' := 18) rfl (D 10 (17, .iconst 1, 1) rfl) (v := nI 1) (by decide) ?_
    refine cv_iconst C (pc' := 19) rfl (D 11 (18, .iconst 0, 1) rfl) (v := nI 0) (by decide) ?_
    refine cv_iload_n C (pc' := 20) rfl (D 12 (19, .iload_n 1, 1) rfl) rfl (j := 1) rfl ?_
    refine cv_iload_n C (pc' := 21) rfl (D 13 (20, .iload_n 2, 1) rfl) rfl (j := 2) rfl ?_
    refine cv_callV C (pc' := 24) rfl (k0 := 10) (ci := 0) (As := [.int (nI 1), .int (nI 0), .int (nI d), .int (nI q)]) (rest := []) (idx := 103) (np := 4) (kX0_firstDayIn f 1 0 d q σ hT (by omega) (by omega) (by omega) (by omega)) (by decide) rfl rfl rfl (by decide +kernel) rfl wmX0_103 wi_yX0_firstDayIn ws_yX0_firstDayIn wn_X0 wc_yX0_firstDayIn (by decide) (by decide) (D 14 (21, .invokevirtual 103, 3) rfl) (Nat.le_of_ble_eq_true rfl) rfl (fun w9 u9 h9 => ?_)
    rw [h9.1, h9.2]
    show cv_At X _ _ σ 24 _ [.int (cv_o (cv_fi f 1 0 d q))]
    refine cv_istore C (pc' := 26) rfl (D 15 (24, .istore 4, 2) rfl) (by decide) (lv' := [(4, .int (cv_o (cv_fi f 1 0 d q))), (0, .ref 10), (1, .int (nI d)), (2, .int (nI q)), (3, .int (nI t))]) rfl ?_
    refine cv_iload C (pc' := 28) rfl (D 16 (26, .iload 4, 2) rfl) (j := 0) rfl ?_
    refine cv_bipush C (pc' := 30) rfl (D 17 (28, .bipush (-9), 2) rfl) (v := -9) (by decide) ?_
    refine cv_icmp_neO C (pc' := 33) rfl (fun z h => Nat.lt_trans (cv_fi_lt h) (by decide)) (tgt := 38) (D 18 (30, .if_icmp .ne 8, 3) rfl) (by decide) (fun z30 b30 => ?_) (fun b30 => ?_)
    · skip
      have ez30 : cv_o (cv_fi f 1 0 d q) = nI z30 := by rw [b30]; rfl
      rw [ez30]
      have hz := cv_fi_lt b30
      refine cv_aload_n C (pc' := 39) rfl (D 21 (38, .aload_n 0, 1) rfl) rfl (j := 1) rfl ?_
      refine cv_iconst C (pc' := 40) rfl (D 22 (39, .iconst 2, 1) rfl) (v := nI 2) (by decide) ?_
      refine cv_iconst C (pc' := 41) rfl (D 23 (40, .iconst 1, 1) rfl) (v := nI 1) (by decide) ?_
      refine cv_iload C (pc' := 43) rfl (D 24 (41, .iload 4, 2) rfl) (j := 0) rfl ?_
      refine cv_iload_n C (pc' := 44) rfl (D 25 (43, .iload_n 3, 1) rfl) rfl (j := 4) rfl ?_
      refine cv_callV C (pc' := 47) rfl (k0 := 10) (ci := 0) (As := [.int (nI 2), .int (nI 1), .int (nI z30), .int (nI t)]) (rest := []) (idx := 103) (np := 4) (kX0_firstDayIn f 2 1 z30 t σ hT (by omega) (by omega) (by omega) (by omega)) (by decide) rfl rfl rfl (by decide +kernel) rfl wmX0_103 wi_yX0_firstDayIn ws_yX0_firstDayIn wn_X0 wc_yX0_firstDayIn (by decide) (by decide) (D 26 (44, .invokevirtual 103, 3) rfl) (Nat.le_of_ble_eq_true rfl) rfl (fun w9 u9 h9 => ?_)
      rw [h9.1, h9.2]
      show cv_At X _ _ σ 47 _ [.int (cv_o (cv_fi f 2 1 z30 t))]
      exact cv_iret C Rt rfl (D 27 (47, .ireturn, 1) rfl) ⟨congrArg (fun z => some (Value.int z)) (by unfold cv_dw; rw [if_pos b10, b30]), rfl⟩
    · skip
      refine cv_bipush C (pc' := 35) rfl (D 19 (33, .bipush (-9), 2) rfl) (v := -9) (by decide) ?_
      refine cv_goto C (tgt := 47) (D 20 (35, .goto 12, 3) rfl) (by decide) ?_
      exact cv_iret C Rt rfl (D 27 (47, .ireturn, 1) rfl) ⟨congrArg (fun z => some (Value.int z)) (by unfold cv_dw; rw [if_pos b10, b30]; rfl), rfl⟩
  · skip
    refine cv_bipush C (pc' := 15) rfl (D 7 (13, .bipush (-9), 2) rfl) (v := -9) (by decide) ?_
    exact cv_iret C Rt rfl (D 8 (15, .ireturn, 1) rfl) ⟨congrArg (fun z => some (Value.int z)) (by unfold cv_dw; rw [b10]; rfl), rfl⟩

set_option maxHeartbeats 4000000 in
set_option maxRecDepth 100000 in
theorem kX0_doneOn (L : cv_L) (f : Nat → Nat) (d : Nat) (σ : cv_St) (hL : cv_LC L σ) (hB : cv_LB L) (hT : cv_TC f σ) (hd : d < 8) : cv_Ct yX0_doneOn cX0_doneOn 2 (some .int) 3 0 0 26 cv_shC [.ref 10, .int (nI d)] σ (cv_pu (.int (cv_o (cv_dw f (L 6 0) d (L 6 1) (L 6 2)))) σ) := by
  refine cv_enter (own := RX0) (by decide) rfl (Nat.le_of_ble_eq_true rfl) ?_
  intro X a C Rt hRm
  have D := @cv_dec _ _ dkX0_doneOn
  have hg1 := hB.2.2.2 1 (by decide)
  have hg2 := hB.2.2.2 2 (by decide)
  show cv_At X _ _ σ 0 [(0, .ref 10), (1, .int (nI d))] []
  refine cv_aload_n C (pc' := 1) rfl (D 0 (0, .aload_n 0, 1) rfl) rfl (j := 0) rfl ?_
  refine cv_iload_n C (pc' := 2) rfl (D 1 (1, .iload_n 1, 1) rfl) rfl (j := 1) rfl ?_
  refine cv_aload_n C (pc' := 3) rfl (D 2 (2, .aload_n 0, 1) rfl) rfl (j := 0) rfl ?_
  refine cv_get C (pc' := 6) rfl (k0 := 10) (i := 2) (ci := 0) (by decide) rfl rfl (by decide) (o := some 19) rfl iw_X0 wfX0_21 (D 3 (3, .getfield 21, 3) rfl) rfl ?_
  refine cv_iconst C (pc' := 7) rfl (D 4 (6, .iconst 1, 1) rfl) (v := nI 1) (by decide) ?_
  refine cv_iald C (pc' := 8) rfl (k0 := 19) (j := 1) (by decide) rfl rfl (by omega) (by decide) (D 5 (7, .iaload, 1) rfl) (v := nI (L 6 1)) (hL.2.2.1 _ (by omega)) ?_
  refine cv_aload_n C (pc' := 9) rfl (D 6 (8, .aload_n 0, 1) rfl) rfl (j := 0) rfl ?_
  refine cv_get C (pc' := 12) rfl (k0 := 10) (i := 2) (ci := 0) (by decide) rfl rfl (by decide) (o := some 19) rfl iw_X0 wfX0_21 (D 7 (9, .getfield 21, 3) rfl) rfl ?_
  refine cv_iconst C (pc' := 13) rfl (D 8 (12, .iconst 2, 1) rfl) (v := nI 2) (by decide) ?_
  refine cv_iald C (pc' := 14) rfl (k0 := 19) (j := 2) (by decide) rfl rfl (by omega) (by decide) (D 9 (13, .iaload, 1) rfl) (v := nI (L 6 2)) (hL.2.2.1 _ (by omega)) ?_
  refine cv_callV C (pc' := 17) rfl (k0 := 10) (ci := 0) (As := [.int (nI d), .int (nI (L 6 1)), .int (nI (L 6 2))]) (rest := []) (idx := 100) (np := 3) (kX0_doneWith L f d (L 6 1) (L 6 2) σ hL hB hT (by omega) (by omega) (by omega)) (by decide) rfl rfl rfl (by decide +kernel) rfl wmX0_100 wi_yX0_doneWith ws_yX0_doneWith wn_X0 wc_yX0_doneWith (by decide) (by decide) (D 10 (14, .invokevirtual 100, 3) rfl) (Nat.le_of_ble_eq_true rfl) rfl (fun w9 u9 h9 => ?_)
  rw [h9.1, h9.2]
  show cv_At X _ _ σ 17 _ [.int (cv_o (cv_dw f (L 6 0) d (L 6 1) (L 6 2)))]
  exact cv_iret C Rt rfl (D 11 (17, .ireturn, 1) rfl) ⟨rfl, rfl⟩

set_option maxHeartbeats 4000000 in
set_option maxRecDepth 100000 in
theorem kX0_isDoneBy (L : cv_L) (f : Nat → Nat) (w d q t : Nat) (σ : cv_St) (hL : cv_LC L σ) (hB : cv_LB L) (hT : cv_TC f σ) (hw : w < 8) (hd : d < 8) (hq : q < 2 ^ 31) (ht : t < 2 ^ 31) : cv_Ct yX0_isDoneBy cX0_isDoneBy 6 (some .boolean) 3 0 0 26 cv_shC [.ref 10, .int (nI w), .int (nI d), .int (nI q), .int (nI t)] σ (cv_pu (.int (cv_b (cv_by (cv_dw f (L 6 0) d q t) w))) σ) := by
  refine cv_enter (own := RX0) (by decide) rfl (Nat.le_of_ble_eq_true rfl) ?_
  intro X a C Rt hRm
  have D := @cv_dec _ _ dkX0_isDoneBy
  show cv_At X _ _ σ 0 [(0, .ref 10), (1, .int (nI w)), (2, .int (nI d)), (3, .int (nI q)), (4, .int (nI t))] []
  refine cv_aload_n C (pc' := 1) rfl (D 0 (0, .aload_n 0, 1) rfl) rfl (j := 0) rfl ?_
  refine cv_iload_n C (pc' := 2) rfl (D 1 (1, .iload_n 2, 1) rfl) rfl (j := 2) rfl ?_
  refine cv_iload_n C (pc' := 3) rfl (D 2 (2, .iload_n 3, 1) rfl) rfl (j := 3) rfl ?_
  refine cv_iload C (pc' := 5) rfl (D 3 (3, .iload 4, 2) rfl) (j := 4) rfl ?_
  refine cv_callV C (pc' := 8) rfl (k0 := 10) (ci := 0) (As := [.int (nI d), .int (nI q), .int (nI t)]) (rest := []) (idx := 100) (np := 3) (kX0_doneWith L f d q t σ hL hB hT (by omega) (by omega) (by omega)) (by decide) rfl rfl rfl (by decide +kernel) rfl wmX0_100 wi_yX0_doneWith ws_yX0_doneWith wn_X0 wc_yX0_doneWith (by decide) (by decide) (D 4 (5, .invokevirtual 100, 3) rfl) (Nat.le_of_ble_eq_true rfl) rfl (fun w9 u9 h9 => ?_)
  rw [h9.1, h9.2]
  show cv_At X _ _ σ 8 _ [.int (cv_o (cv_dw f (L 6 0) d q t))]
  refine cv_istore C (pc' := 10) rfl (D 5 (8, .istore 5, 2) rfl) (by decide) (lv' := [(5, .int (cv_o (cv_dw f (L 6 0) d q t))), (0, .ref 10), (1, .int (nI w)), (2, .int (nI d)), (3, .int (nI q)), (4, .int (nI t))]) rfl ?_
  refine cv_iload C (pc' := 12) rfl (D 6 (10, .iload 5, 2) rfl) (j := 0) rfl ?_
  refine cv_bipush C (pc' := 14) rfl (D 7 (12, .bipush (-9), 2) rfl) (v := -9) (by decide) ?_
  refine cv_icmp_eqO C (pc' := 17) rfl (fun z h => Nat.lt_trans (cv_dw_lt h) (by decide)) (tgt := 27) (D 8 (14, .if_icmp .eq 13, 3) rfl) (by decide) (fun b14 => ?_) (fun z14 b14 => ?_)
  · skip
    refine cv_iconst C (pc' := 28) rfl (D 14 (27, .iconst 0, 1) rfl) (v := nI 0) (by decide) ?_
    exact cv_iret C Rt (by decide) (D 15 (28, .ireturn, 1) rfl) ⟨congrArg (fun z => some (Value.int z)) (by rw [b14]; rfl), rfl⟩
  · skip
    have ez14 : cv_o (cv_dw f (L 6 0) d q t) = nI z14 := by rw [b14]; rfl
    rw [ez14]
    have hz := cv_dw_lt b14
    refine cv_iload C (pc' := 19) rfl (D 9 (17, .iload 5, 2) rfl) (j := 0) rfl ?_
    refine cv_iload_n C (pc' := 20) rfl (D 10 (19, .iload_n 1, 1) rfl) rfl (j := 2) rfl ?_
    refine cv_icmp_gtN C (pc' := 23) rfl (by omega) (by omega) (tgt := 27) (D 11 (20, .if_icmp .gt 7, 3) rfl) (by decide) (fun b20 => ?_) (fun b20 => ?_)
    · skip
      refine cv_iconst C (pc' := 28) rfl (D 14 (27, .iconst 0, 1) rfl) (v := nI 0) (by decide) ?_
      exact cv_iret C Rt (by decide) (D 15 (28, .ireturn, 1) rfl) ⟨congrArg (fun z => some (Value.int z)) (by rw [b14]; unfold cv_by; dsimp only; rw [decide_eq_false (by omega)]; rfl), rfl⟩
    · skip
      refine cv_iconst C (pc' := 24) rfl (D 12 (23, .iconst 1, 1) rfl) (v := nI 1) (by decide) ?_
      refine cv_goto C (tgt := 28) (D 13 (24, .goto 4, 3) rfl) (by decide) ?_
      exact cv_iret C Rt (by decide) (D 15 (28, .ireturn, 1) rfl) ⟨congrArg (fun z => some (Value.int z)) (by rw [b14]; unfold cv_by; dsimp only; rw [decide_eq_true (by omega)]; rfl), rfl⟩

