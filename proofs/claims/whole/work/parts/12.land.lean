set_option maxHeartbeats 4000000 in
set_option maxRecDepth 100000 in
theorem kX0_arrival (L : cv_L) (p v d : Nat) (σ : cv_St) (hL : cv_LC L σ) (hB : cv_LB L) (hp : p < L 7 0) (hv : v < 3) (hd : d < 8) : cv_Ct yX0_arrival cX0_arrival 5 (some .int) 1 0 0 26 cv_shC [.ref 10, .ref (12 + p), .int (nI v), .int (nI d)] σ (cv_pu (.int (cv_o (cv_ar L p v d))) σ) := by
  refine cv_enter (own := RX0) (by decide) rfl (Nat.le_of_ble_eq_true rfl) ?_
  intro X a C Rt hRm
  have D := @cv_dec _ _ dkX0_arrival
  have hp6 : p < 6 := Nat.lt_of_lt_of_le hp hB.1
  have ht := cv_tk_b hB hp
  show cv_At X _ _ σ 0 [(0, .ref 10), (1, .ref (12 + p)), (2, .int (nI v)), (3, .int (nI d))] []
  refine cv_aload_n C (pc' := 1) rfl (D 0 (0, .aload_n 1, 1) rfl) rfl (j := 1) rfl ?_
  refine cv_iload_n C (pc' := 2) rfl (D 1 (1, .iload_n 2, 1) rfl) rfl (j := 2) rfl ?_
  refine cv_callV C (pc' := 5) rfl (k0 := 12 + p) (ci := 1) (As := [.int (nI v)]) (rest := []) (idx := 77) (np := 1) (kX1_otherEnd L p v σ hL hB hp (by omega)) (cv_lt_p hp6) (cv_shC_p hp6) rfl rfl (by decide +kernel) rfl wmX0_77 wi_yX1_otherEnd ws_yX1_otherEnd wn_X1 wc_yX1_otherEnd (by decide) (by decide) (D 2 (2, .invokevirtual 77, 3) rfl) (Nat.le_of_ble_eq_true rfl) rfl (fun w9 u9 h9 => ?_)
  rw [h9.1, h9.2]
  show cv_At X _ _ σ 5 _ [.int (cv_o (cv_oe L p v))]
  refine cv_bipush C (pc' := 7) rfl (D 3 (5, .bipush (-9), 2) rfl) (v := -9) (by decide) ?_
  refine cv_icmp_eqO C (pc' := 10) rfl (fun z h => Nat.lt_of_le_of_lt (cv_oe_le hB hp h) (by decide)) (tgt := 23) (D 4 (7, .if_icmp .eq 16, 3) rfl) (by decide) (fun b7 => ?_) (fun z7 b7 => ?_)
  · skip
    refine cv_bipush C (pc' := 25) rfl (D 12 (23, .bipush (-9), 2) rfl) (v := -9) (by decide) ?_
    exact cv_iret C Rt rfl (D 13 (25, .ireturn, 1) rfl) ⟨congrArg (fun z => some (Value.int z)) (by unfold cv_ar; rw [if_pos (Or.inl b7)]; rfl), rfl⟩
  · skip
    refine cv_aload_n C (pc' := 11) rfl (D 5 (10, .aload_n 1, 1) rfl) rfl (j := 1) rfl ?_
    refine cv_aload_n C (pc' := 12) rfl (D 6 (11, .aload_n 0, 1) rfl) rfl (j := 0) rfl ?_
    refine cv_get C (pc' := 15) rfl (k0 := 10) (i := 1) (ci := 0) (by decide) rfl rfl (by decide) (o := some 18) rfl iw_X0 wfX0_17 (D 7 (12, .getfield 17, 3) rfl) rfl ?_
    refine cv_iload_n C (pc' := 16) rfl (D 8 (15, .iload_n 3, 1) rfl) rfl (j := 3) rfl ?_
    refine cv_iald C (pc' := 17) rfl (k0 := 18) (j := d) (by decide) rfl rfl (by omega) (by decide) (D 9 (16, .iaload, 1) rfl) (v := nI (L 5 d)) (hL.2.1 _ (by omega)) ?_
    refine cv_callV C (pc' := 20) rfl (k0 := 12 + p) (ci := 1) (As := [.int (nI (L 5 d))]) (rest := []) (idx := 80) (np := 1) (kX1_isOpenIn L p (L 5 d) σ hL hB hp (hB.2.2.1 _ (by omega))) (cv_lt_p hp6) (cv_shC_p hp6) rfl rfl (by decide +kernel) rfl wmX0_80 wi_yX1_isOpenIn ws_yX1_isOpenIn wn_X1 wc_yX1_isOpenIn (by decide) (by decide) (D 10 (17, .invokevirtual 80, 3) rfl) (Nat.le_of_ble_eq_true rfl) rfl (fun w9 u9 h9 => ?_)
    rw [h9.1, h9.2]
    show cv_At X _ _ σ 20 _ [.int (cv_b (cv_op L p d))]
    refine cv_if_neB C (pc' := 23) rfl (tgt := 26) (D 11 (20, .ifCond .ne 6, 3) rfl) (by decide) (fun b20 => ?_) (fun b20 => ?_)
    · skip
      refine cv_iload_n C (pc' := 27) rfl (D 14 (26, .iload_n 3, 1) rfl) rfl (j := 3) rfl ?_
      refine cv_aload_n C (pc' := 28) rfl (D 15 (27, .aload_n 1, 1) rfl) rfl (j := 1) rfl ?_
      refine cv_callV C (pc' := 31) rfl (k0 := 12 + p) (ci := 1) (As := []) (rest := [.int (nI d)]) (idx := 84) (np := 0) (kX1_takes L p σ hL hB hp) (cv_lt_p hp6) (cv_shC_p hp6) rfl rfl (by decide +kernel) rfl wmX0_84 wi_yX1_takes ws_yX1_takes wn_X1 wc_yX1_takes (by decide) (by decide) (D 16 (28, .invokevirtual 84, 3) rfl) (Nat.le_of_ble_eq_true rfl) rfl (fun w9 u9 h9 => ?_)
      rw [h9.1, h9.2]
      show cv_At X _ _ σ 31 _ [.int (nI (cv_tk L p)), .int (nI d)]
      refine cv_iaddN C (pc' := 32) rfl (D 17 (31, .iadd, 1) rfl) ?_
      refine cv_istore C (pc' := 34) rfl (D 18 (32, .istore 4, 2) rfl) (by decide) (lv' := [(4, .int (nI (d + (cv_tk L p)))), (0, .ref 10), (1, .ref (12 + p)), (2, .int (nI v)), (3, .int (nI d))]) rfl ?_
      refine cv_iload C (pc' := 36) rfl (D 19 (34, .iload 4, 2) rfl) (j := 0) rfl ?_
      refine cv_bipush C (pc' := 38) rfl (D 20 (36, .bipush 7, 2) rfl) (v := nI 7) (by decide) ?_
      refine cv_icmp_gtN C (pc' := 41) rfl (by omega) (by omega) (tgt := 46) (D 21 (38, .if_icmp .gt 8, 3) rfl) (by decide) (fun b38 => ?_) (fun b38 => ?_)
      · skip
        refine cv_bipush C (pc' := 48) rfl (D 24 (46, .bipush (-9), 2) rfl) (v := -9) (by decide) ?_
        exact cv_iret C Rt rfl (D 25 (48, .ireturn, 1) rfl) ⟨congrArg (fun z => some (Value.int z)) (by unfold cv_ar; rw [if_neg (by simp [b7, b20]), if_neg (by omega)]; rfl), rfl⟩
      · skip
        refine cv_iload C (pc' := 43) rfl (D 22 (41, .iload 4, 2) rfl) (j := 0) rfl ?_
        refine cv_goto C (tgt := 48) (D 23 (43, .goto 5, 3) rfl) (by decide) ?_
        exact cv_iret C Rt rfl (D 25 (48, .ireturn, 1) rfl) ⟨congrArg (fun z => some (Value.int z)) (by unfold cv_ar; rw [if_neg (by simp [b7, b20]), if_pos (by omega)]; rfl), rfl⟩
    · skip
      refine cv_bipush C (pc' := 25) rfl (D 12 (23, .bipush (-9), 2) rfl) (v := -9) (by decide) ?_
      exact cv_iret C Rt rfl (D 13 (25, .ireturn, 1) rfl) ⟨congrArg (fun z => some (Value.int z)) (by unfold cv_ar; rw [if_pos (Or.inr b20)]; rfl), rfl⟩

set_option maxHeartbeats 4000000 in
set_option maxRecDepth 100000 in
theorem kX0_reachFrom (L : cv_L) (f : Nat → Nat) (v d : Nat) (x : Int32) (σ : cv_St) (hL : cv_LC L σ) (hB : cv_LB L) (hv : v < 3) (hd : d < 8) (hT : ∀ j, d < j / 3 → j < 24 → σ 20 j = nI (f j)) : cv_Ct yX0_reachFrom cX0_reachFrom 7 (some .int) 2 0 0 26 cv_shC [.ref 10, .int (nI v), .int (nI d), .int x] σ (cv_pu (.int (nI (cv_rv L (fun q => decide (nI q = x)) f v d))) σ) := by
  refine cv_enter (own := RX0) (by decide) rfl (Nat.le_of_ble_eq_true rfl) ?_
  intro X a C Rt hRm
  have D := @cv_dec _ _ dkX0_reachFrom
  have hn6 := hB.1
  show cv_At X _ _ σ 0 [(0, .ref 10), (1, .int (nI v)), (2, .int (nI d)), (3, .int x)] []
  refine cv_iconst C (pc' := 1) rfl (D 0 (0, .iconst 1, 1) rfl) (v := nI 1) (by decide) ?_
  refine cv_bipush C (pc' := 3) rfl (D 1 (1, .bipush 8, 2) rfl) (v := nI 8) (by decide) ?_
  refine cv_iload_n C (pc' := 4) rfl (D 2 (3, .iload_n 1, 1) rfl) rfl (j := 1) rfl ?_
  refine cv_imulN C (pc' := 5) rfl (D 3 (4, .imul, 1) rfl) ?_
  refine cv_iload_n C (pc' := 6) rfl (D 4 (5, .iload_n 2, 1) rfl) rfl (j := 2) rfl ?_
  refine cv_iaddN C (pc' := 7) rfl (D 5 (6, .iadd, 1) rfl) ?_
  refine cv_ishl1 C (pc' := 8) rfl (by omega) (D 6 (7, .ishl, 1) rfl) ?_
  refine cv_istore C (pc' := 10) rfl (D 7 (8, .istore 4, 2) rfl) (by decide) (lv' := [(4, .int (nI (2 ^ ((8 * v) + d)))), (0, .ref 10), (1, .int (nI v)), (2, .int (nI d)), (3, .int x)]) rfl ?_
  refine cv_iload_n C (pc' := 11) rfl (D 8 (10, .iload_n 2, 1) rfl) rfl (j := 3) rfl ?_
  refine cv_bipush C (pc' := 13) rfl (D 9 (11, .bipush 7, 2) rfl) (v := nI 7) (by decide) ?_
  refine cv_icmp_geN C (pc' := 16) rfl (by omega) (by omega) (tgt := 33) (D 10 (13, .if_icmp .ge 20, 3) rfl) (by decide) (fun b13 => ?_) (fun b13 => ?_)
  · skip
    refine cv_iconst C (pc' := 34) rfl (D 24 (33, .iconst 0, 1) rfl) (v := nI 0) (by decide) ?_
    refine cv_istore C (pc' := 36) rfl (D 25 (34, .istore 5, 2) rfl) (by decide) (lv' := [(5, .int (nI 0)), (4, .int (nI (2 ^ ((8 * v) + d)))), (0, .ref 10), (1, .int (nI v)), (2, .int (nI d)), (3, .int x)]) rfl ?_
    obtain ⟨i0, hi0⟩ : ∃ i0, i0 = 2 ^ ((8 * v) + d) := ⟨_, rfl⟩
    rw [← hi0]
    refine cv_pick [0, 1, 2, 3, 4, 5] (lv' := [(5, .int (nI 0)), (4, .int (nI (cv_rl L (fun q => decide (nI q = x)) f v d i0 0))), (0, .ref 10), (1, .int (nI v)), (2, .int (nI d)), (3, .int x)]) rfl ?_
    have LP36 : ∀ (r : Nat) (p : Nat), (p + r = L 7 0) → cv_At X (26, cv_shC, 0, 0, a) 7 σ 36 [(5, .int (nI p)), (4, .int (nI (cv_rl L (fun q => decide (nI q = x)) f v d i0 p))), (0, .ref 10), (1, .int (nI v)), (2, .int (nI d)), (3, .int x)] [] := by
      intro r
      induction r with
      | zero =>
        intro p hr
        refine cv_iload C (pc' := 38) rfl (D 26 (36, .iload 5, 2) rfl) (j := 0) rfl ?_
        refine cv_aload_n C (pc' := 39) rfl (D 27 (38, .aload_n 0, 1) rfl) rfl (j := 2) rfl ?_
        refine cv_get C (pc' := 42) rfl (k0 := 10) (i := 6) (ci := 0) (by decide) rfl rfl (by decide) (o := none) rfl iw_X0 wfX0_50 (D 28 (39, .getfield 50, 3) rfl) (v := .int (nI (L 7 0))) (congrArg Value.int hL.1) ?_
        refine cv_icmp_geN C (pc' := 45) rfl (by omega) (by omega) (tgt := 110) (D 29 (42, .if_icmp .ge 68, 3) rfl) (by decide) (fun b42 => ?_) (fun b42 => ?_)
        · skip
          refine cv_iload C (pc' := 112) rfl (D 65 (110, .iload 4, 2) rfl) (j := 1) rfl ?_
          exact cv_iret C Rt rfl (D 66 (112, .ireturn, 1) rfl) ⟨congrArg (fun z => some (Value.int z)) (by unfold cv_rv; rw [show p = L 7 0 by omega, hi0]; rw [if_neg (by omega)]), rfl⟩
        · skip
          omega
      | succ r ih36 =>
        intro p hr
        have hp : p < L 7 0 := by omega
        have hp6 : p < 6 := Nat.lt_of_lt_of_le hp hB.1
        refine cv_iload C (pc' := 38) rfl (D 26 (36, .iload 5, 2) rfl) (j := 0) rfl ?_
        refine cv_aload_n C (pc' := 39) rfl (D 27 (38, .aload_n 0, 1) rfl) rfl (j := 2) rfl ?_
        refine cv_get C (pc' := 42) rfl (k0 := 10) (i := 6) (ci := 0) (by decide) rfl rfl (by decide) (o := none) rfl iw_X0 wfX0_50 (D 28 (39, .getfield 50, 3) rfl) (v := .int (nI (L 7 0))) (congrArg Value.int hL.1) ?_
        refine cv_icmp_geN C (pc' := 45) rfl (by omega) (by omega) (tgt := 110) (D 29 (42, .if_icmp .ge 68, 3) rfl) (by decide) (fun b42 => ?_) (fun b42 => ?_)
        · skip
          omega
        · skip
          refine cv_iload C (pc' := 47) rfl (D 30 (45, .iload 5, 2) rfl) (j := 0) rfl ?_
          refine cv_iload_n C (pc' := 48) rfl (D 31 (47, .iload_n 3, 1) rfl) rfl (j := 5) rfl ?_
          refine cv_icmp_ne C (pc' := 51) rfl (tgt := 56) (D 32 (48, .if_icmp .ne 8, 3) rfl) (by decide) (fun b48 => ?_) (fun b48 => ?_)
          · skip
            refine cv_aload_n C (pc' := 57) rfl (D 35 (56, .aload_n 0, 1) rfl) rfl (j := 2) rfl ?_
            refine cv_aload_n C (pc' := 58) rfl (D 36 (57, .aload_n 0, 1) rfl) rfl (j := 2) rfl ?_
            refine cv_get C (pc' := 61) rfl (k0 := 10) (i := 0) (ci := 0) (by decide) rfl rfl (by decide) (o := some 11) rfl iw_X0 wfX0_11 (D 37 (58, .getfield 11, 3) rfl) rfl ?_
            refine cv_iload C (pc' := 63) rfl (D 38 (61, .iload 5, 2) rfl) (j := 0) rfl ?_
            refine cv_aald C (pc' := 64) rfl (k0 := 11) (j := p) (r := 12 + p) (by decide) rfl rfl rfl (cv_ix_p hp6) (by decide) (D 39 (63, .aaload, 1) rfl) ?_
            refine cv_iload_n C (pc' := 65) rfl (D 40 (64, .iload_n 1, 1) rfl) rfl (j := 3) rfl ?_
            refine cv_iload_n C (pc' := 66) rfl (D 41 (65, .iload_n 2, 1) rfl) rfl (j := 4) rfl ?_
            refine cv_callV C (pc' := 69) rfl (k0 := 10) (ci := 0) (As := [.ref (12 + p), .int (nI v), .int (nI d)]) (rest := []) (idx := 92) (np := 3) (kX0_arrival L p v d σ hL hB hp (by omega) (by omega)) (by decide) rfl rfl rfl (by decide +kernel) rfl wmX0_92 wi_yX0_arrival ws_yX0_arrival wn_X0 wc_yX0_arrival (by decide) (by decide) (D 42 (66, .invokevirtual 92, 3) rfl) (Nat.le_of_ble_eq_true rfl) rfl (fun w9 u9 h9 => ?_)
            rw [h9.1, h9.2]
            show cv_At X _ _ σ 69 _ [.int (cv_o (cv_ar L p v d))]
            refine cv_istore C (pc' := 71) rfl (D 43 (69, .istore 6, 2) rfl) (by decide) (lv' := [(6, .int (cv_o (cv_ar L p v d))), (5, .int (nI p)), (4, .int (nI (cv_rl L (fun q => decide (nI q = x)) f v d i0 p))), (0, .ref 10), (1, .int (nI v)), (2, .int (nI d)), (3, .int x)]) rfl ?_
            refine cv_iload C (pc' := 73) rfl (D 44 (71, .iload 6, 2) rfl) (j := 0) rfl ?_
            refine cv_bipush C (pc' := 75) rfl (D 45 (73, .bipush (-9), 2) rfl) (v := -9) (by decide) ?_
            refine cv_icmp_eqO C (pc' := 78) rfl (fun z h => Nat.lt_of_le_of_lt (cv_ar_le h) (by decide)) (tgt := 104) (D 46 (75, .if_icmp .eq 29, 3) rfl) (by decide) (fun b75 => ?_) (fun z75 b75 => ?_)
            · skip
              refine cv_iincN C (pc' := 107) rfl (D 63 (104, .iinc 5 1, 3) rfl) (j := 1) rfl (by decide) (lv' := [(5, .int (nI (p + 1))), (6, .int (cv_o (cv_ar L p v d))), (4, .int (nI (cv_rl L (fun q => decide (nI q = x)) f v d i0 p))), (0, .ref 10), (1, .int (nI v)), (2, .int (nI d)), (3, .int x)]) rfl ?_
              refine cv_goto C (tgt := 36) (D 64 (107, .goto (-71), 3) rfl) (by decide) ?_
              have hw : cv_rl L (fun q => decide (nI q = x)) f v d i0 p = cv_rl L (fun q => decide (nI q = x)) f v d i0 (p + 1) := by simp [cv_rl, cv_rc, b48, b75]
              rw [hw]
              refine cv_pick [0, 2, 3, 4, 5, 6] (lv' := [(5, .int (nI (p + 1))), (4, .int (nI (cv_rl L (fun q => decide (nI q = x)) f v d i0 (p + 1)))), (0, .ref 10), (1, .int (nI v)), (2, .int (nI d)), (3, .int x)]) rfl ?_
              exact ih36 (p + 1) (by omega)
            · skip
              have ez75 : cv_o (cv_ar L p v d) = nI z75 := by rw [b75]; rfl
              rw [ez75]
              refine cv_iload C (pc' := 80) rfl (D 47 (78, .iload 4, 2) rfl) (j := 2) rfl ?_
              refine cv_aload_n C (pc' := 81) rfl (D 48 (80, .aload_n 0, 1) rfl) rfl (j := 3) rfl ?_
              refine cv_get C (pc' := 84) rfl (k0 := 10) (i := 3) (ci := 0) (by decide) rfl rfl (by decide) (o := some 20) rfl iw_X0 wfX0_24 (D 49 (81, .getfield 24, 3) rfl) rfl ?_
              refine cv_iload C (pc' := 86) rfl (D 50 (84, .iload 6, 2) rfl) (j := 0) rfl ?_
              refine cv_iconst C (pc' := 87) rfl (D 51 (86, .iconst 3, 1) rfl) (v := nI 3) (by decide) ?_
              refine cv_imulN C (pc' := 88) rfl (D 52 (87, .imul, 1) rfl) ?_
              refine cv_aload_n C (pc' := 89) rfl (D 53 (88, .aload_n 0, 1) rfl) rfl (j := 3) rfl ?_
              refine cv_get C (pc' := 92) rfl (k0 := 10) (i := 0) (ci := 0) (by decide) rfl rfl (by decide) (o := some 11) rfl iw_X0 wfX0_11 (D 54 (89, .getfield 11, 3) rfl) rfl ?_
              refine cv_iload C (pc' := 94) rfl (D 55 (92, .iload 5, 2) rfl) (j := 1) rfl ?_
              refine cv_aald C (pc' := 95) rfl (k0 := 11) (j := p) (r := 12 + p) (by decide) rfl rfl rfl (cv_ix_p hp6) (by decide) (D 56 (94, .aaload, 1) rfl) ?_
              refine cv_iload_n C (pc' := 96) rfl (D 57 (95, .iload_n 1, 1) rfl) rfl (j := 4) rfl ?_
              refine cv_callV C (pc' := 99) rfl (k0 := 12 + p) (ci := 1) (As := [.int (nI v)]) (rest := [.int (nI (z75 * 3)), .ref 20, .int (nI (cv_rl L (fun q => decide (nI q = x)) f v d i0 p))]) (idx := 77) (np := 1) (kX1_otherEnd L p v σ hL hB hp (by omega)) (cv_lt_p hp6) (cv_shC_p hp6) rfl rfl (by decide +kernel) rfl wmX0_77 wi_yX1_otherEnd ws_yX1_otherEnd wn_X1 wc_yX1_otherEnd (by decide) (by decide) (D 58 (96, .invokevirtual 77, 3) rfl) (Nat.le_of_ble_eq_true rfl) rfl (fun w9 u9 h9 => ?_)
              rw [h9.1, h9.2]
              show cv_At X _ _ σ 99 _ [.int (cv_o (cv_oe L p v)), .int (nI (z75 * 3)), .ref 20, .int (nI (cv_rl L (fun q => decide (nI q = x)) f v d i0 p))]
              obtain ⟨q, hq⟩ : ∃ q, cv_oe L p v = some q := by
                cases ho : cv_oe L p v with
                | some q => exact ⟨q, rfl⟩
                | none => exact absurd b75 (by simp [cv_ar, ho])
              have b75oe := hq
              have hq2 := cv_oe_le hB hp hq
              have hz7 := cv_ar_le b75
              have hz8 : d < z75 := by have := cv_ar_gt hB hp b75; omega
              refine cv_top (w := nI q) (by rw [hq]; rfl) ?_
              refine cv_iaddN C (pc' := 100) rfl (D 59 (99, .iadd, 1) rfl) ?_
              refine cv_iald C (pc' := 101) rfl (k0 := 20) (j := (z75 * 3) + q) (by decide) rfl rfl (by omega) (by decide) (D 60 (100, .iaload, 1) rfl) (v := nI (f ((z75 * 3) + q))) (hT _ (by omega) (by omega)) ?_
              refine cv_iorN C (pc' := 102) rfl (D 61 (101, .ior, 1) rfl) ?_
              refine cv_istore C (pc' := 104) rfl (D 62 (102, .istore 4, 2) rfl) (by decide) (lv' := [(4, .int (nI ((cv_rl L (fun q => decide (nI q = x)) f v d i0 p) ||| (f ((z75 * 3) + q))))), (6, .int (nI z75)), (5, .int (nI p)), (0, .ref 10), (1, .int (nI v)), (2, .int (nI d)), (3, .int x)]) rfl ?_
              refine cv_iincN C (pc' := 107) rfl (D 63 (104, .iinc 5 1, 3) rfl) (j := 2) rfl (by decide) (lv' := [(5, .int (nI (p + 1))), (4, .int (nI ((cv_rl L (fun q => decide (nI q = x)) f v d i0 p) ||| (f ((z75 * 3) + q))))), (6, .int (nI z75)), (0, .ref 10), (1, .int (nI v)), (2, .int (nI d)), (3, .int x)]) rfl ?_
              refine cv_goto C (tgt := 36) (D 64 (107, .goto (-71), 3) rfl) (by decide) ?_
              have hw : (cv_rl L (fun q => decide (nI q = x)) f v d i0 p) ||| (f ((z75 * 3) + q)) = cv_rl L (fun q => decide (nI q = x)) f v d i0 (p + 1) := by simp [cv_rl, cv_rc, b48, b75, b75oe]
              rw [hw]
              refine cv_pick [0, 1, 3, 4, 5, 6] (lv' := [(5, .int (nI (p + 1))), (4, .int (nI (cv_rl L (fun q => decide (nI q = x)) f v d i0 (p + 1)))), (0, .ref 10), (1, .int (nI v)), (2, .int (nI d)), (3, .int x)]) rfl ?_
              exact ih36 (p + 1) (by omega)
          · skip
            refine cv_bipush C (pc' := 53) rfl (D 33 (51, .bipush (-9), 2) rfl) (v := -9) (by decide) ?_
            refine cv_goto C (tgt := 69) (D 34 (53, .goto 16, 3) rfl) (by decide) ?_
            refine cv_istore C (pc' := 71) rfl (D 43 (69, .istore 6, 2) rfl) (by decide) (lv' := [(6, .int (-9)), (5, .int (nI p)), (4, .int (nI (cv_rl L (fun q => decide (nI q = x)) f v d i0 p))), (0, .ref 10), (1, .int (nI v)), (2, .int (nI d)), (3, .int x)]) rfl ?_
            refine cv_iload C (pc' := 73) rfl (D 44 (71, .iload 6, 2) rfl) (j := 0) rfl ?_
            refine cv_bipush C (pc' := 75) rfl (D 45 (73, .bipush (-9), 2) rfl) (v := -9) (by decide) ?_
            refine cv_icmp_eq C (pc' := 78) rfl (tgt := 104) (D 46 (75, .if_icmp .eq 29, 3) rfl) (by decide) (fun _ => ?_) (fun h => absurd h (by decide))
            refine cv_iincN C (pc' := 107) rfl (D 63 (104, .iinc 5 1, 3) rfl) (j := 1) rfl (by decide) (lv' := [(5, .int (nI (p + 1))), (6, .int (-9)), (4, .int (nI (cv_rl L (fun q => decide (nI q = x)) f v d i0 p))), (0, .ref 10), (1, .int (nI v)), (2, .int (nI d)), (3, .int x)]) rfl ?_
            refine cv_goto C (tgt := 36) (D 64 (107, .goto (-71), 3) rfl) (by decide) ?_
            have hw : cv_rl L (fun q => decide (nI q = x)) f v d i0 p = cv_rl L (fun q => decide (nI q = x)) f v d i0 (p + 1) := by simp [cv_rl, cv_rc, b48]
            rw [hw]
            refine cv_pick [0, 2, 3, 4, 5, 6] (lv' := [(5, .int (nI (p + 1))), (4, .int (nI (cv_rl L (fun q => decide (nI q = x)) f v d i0 (p + 1)))), (0, .ref 10), (1, .int (nI v)), (2, .int (nI d)), (3, .int x)]) rfl ?_
            exact ih36 (p + 1) (by omega)
    exact LP36 (L 7 0) 0 (by omega)
  · skip
    refine cv_iload C (pc' := 18) rfl (D 11 (16, .iload 4, 2) rfl) (j := 0) rfl ?_
    refine cv_aload_n C (pc' := 19) rfl (D 12 (18, .aload_n 0, 1) rfl) rfl (j := 1) rfl ?_
    refine cv_get C (pc' := 22) rfl (k0 := 10) (i := 3) (ci := 0) (by decide) rfl rfl (by decide) (o := some 20) rfl iw_X0 wfX0_24 (D 13 (19, .getfield 24, 3) rfl) rfl ?_
    refine cv_iload_n C (pc' := 23) rfl (D 14 (22, .iload_n 2, 1) rfl) rfl (j := 3) rfl ?_
    refine cv_iconst C (pc' := 24) rfl (D 15 (23, .iconst 1, 1) rfl) (v := nI 1) (by decide) ?_
    refine cv_iaddN C (pc' := 25) rfl (D 16 (24, .iadd, 1) rfl) ?_
    refine cv_iconst C (pc' := 26) rfl (D 17 (25, .iconst 3, 1) rfl) (v := nI 3) (by decide) ?_
    refine cv_imulN C (pc' := 27) rfl (D 18 (26, .imul, 1) rfl) ?_
    refine cv_iload_n C (pc' := 28) rfl (D 19 (27, .iload_n 1, 1) rfl) rfl (j := 2) rfl ?_
    refine cv_iaddN C (pc' := 29) rfl (D 20 (28, .iadd, 1) rfl) ?_
    refine cv_iald C (pc' := 30) rfl (k0 := 20) (j := ((d + 1) * 3) + v) (by decide) rfl rfl (by omega) (by decide) (D 21 (29, .iaload, 1) rfl) (v := nI (f (((d + 1) * 3) + v))) (hT _ (by omega) (by omega)) ?_
    refine cv_iorN C (pc' := 31) rfl (D 22 (30, .ior, 1) rfl) ?_
    refine cv_istore C (pc' := 33) rfl (D 23 (31, .istore 4, 2) rfl) (by decide) (lv' := [(4, .int (nI ((2 ^ ((8 * v) + d)) ||| (f (((d + 1) * 3) + v))))), (0, .ref 10), (1, .int (nI v)), (2, .int (nI d)), (3, .int x)]) rfl ?_
    refine cv_iconst C (pc' := 34) rfl (D 24 (33, .iconst 0, 1) rfl) (v := nI 0) (by decide) ?_
    refine cv_istore C (pc' := 36) rfl (D 25 (34, .istore 5, 2) rfl) (by decide) (lv' := [(5, .int (nI 0)), (4, .int (nI ((2 ^ ((8 * v) + d)) ||| (f (((d + 1) * 3) + v))))), (0, .ref 10), (1, .int (nI v)), (2, .int (nI d)), (3, .int x)]) rfl ?_
    obtain ⟨i0, hi0⟩ : ∃ i0, i0 = (2 ^ ((8 * v) + d)) ||| (f (((d + 1) * 3) + v)) := ⟨_, rfl⟩
    rw [← hi0]
    refine cv_pick [0, 1, 2, 3, 4, 5] (lv' := [(5, .int (nI 0)), (4, .int (nI (cv_rl L (fun q => decide (nI q = x)) f v d i0 0))), (0, .ref 10), (1, .int (nI v)), (2, .int (nI d)), (3, .int x)]) rfl ?_
    have LP36 : ∀ (r : Nat) (p : Nat), (p + r = L 7 0) → cv_At X (26, cv_shC, 0, 0, a) 7 σ 36 [(5, .int (nI p)), (4, .int (nI (cv_rl L (fun q => decide (nI q = x)) f v d i0 p))), (0, .ref 10), (1, .int (nI v)), (2, .int (nI d)), (3, .int x)] [] := by
      intro r
      induction r with
      | zero =>
        intro p hr
        refine cv_iload C (pc' := 38) rfl (D 26 (36, .iload 5, 2) rfl) (j := 0) rfl ?_
        refine cv_aload_n C (pc' := 39) rfl (D 27 (38, .aload_n 0, 1) rfl) rfl (j := 2) rfl ?_
        refine cv_get C (pc' := 42) rfl (k0 := 10) (i := 6) (ci := 0) (by decide) rfl rfl (by decide) (o := none) rfl iw_X0 wfX0_50 (D 28 (39, .getfield 50, 3) rfl) (v := .int (nI (L 7 0))) (congrArg Value.int hL.1) ?_
        refine cv_icmp_geN C (pc' := 45) rfl (by omega) (by omega) (tgt := 110) (D 29 (42, .if_icmp .ge 68, 3) rfl) (by decide) (fun b42 => ?_) (fun b42 => ?_)
        · skip
          refine cv_iload C (pc' := 112) rfl (D 65 (110, .iload 4, 2) rfl) (j := 1) rfl ?_
          exact cv_iret C Rt rfl (D 66 (112, .ireturn, 1) rfl) ⟨congrArg (fun z => some (Value.int z)) (by unfold cv_rv; rw [show p = L 7 0 by omega, hi0]; simp [b13]), rfl⟩
        · skip
          omega
      | succ r ih36 =>
        intro p hr
        have hp : p < L 7 0 := by omega
        have hp6 : p < 6 := Nat.lt_of_lt_of_le hp hB.1
        refine cv_iload C (pc' := 38) rfl (D 26 (36, .iload 5, 2) rfl) (j := 0) rfl ?_
        refine cv_aload_n C (pc' := 39) rfl (D 27 (38, .aload_n 0, 1) rfl) rfl (j := 2) rfl ?_
        refine cv_get C (pc' := 42) rfl (k0 := 10) (i := 6) (ci := 0) (by decide) rfl rfl (by decide) (o := none) rfl iw_X0 wfX0_50 (D 28 (39, .getfield 50, 3) rfl) (v := .int (nI (L 7 0))) (congrArg Value.int hL.1) ?_
        refine cv_icmp_geN C (pc' := 45) rfl (by omega) (by omega) (tgt := 110) (D 29 (42, .if_icmp .ge 68, 3) rfl) (by decide) (fun b42 => ?_) (fun b42 => ?_)
        · skip
          omega
        · skip
          refine cv_iload C (pc' := 47) rfl (D 30 (45, .iload 5, 2) rfl) (j := 0) rfl ?_
          refine cv_iload_n C (pc' := 48) rfl (D 31 (47, .iload_n 3, 1) rfl) rfl (j := 5) rfl ?_
          refine cv_icmp_ne C (pc' := 51) rfl (tgt := 56) (D 32 (48, .if_icmp .ne 8, 3) rfl) (by decide) (fun b48 => ?_) (fun b48 => ?_)
          · skip
            refine cv_aload_n C (pc' := 57) rfl (D 35 (56, .aload_n 0, 1) rfl) rfl (j := 2) rfl ?_
            refine cv_aload_n C (pc' := 58) rfl (D 36 (57, .aload_n 0, 1) rfl) rfl (j := 2) rfl ?_
            refine cv_get C (pc' := 61) rfl (k0 := 10) (i := 0) (ci := 0) (by decide) rfl rfl (by decide) (o := some 11) rfl iw_X0 wfX0_11 (D 37 (58, .getfield 11, 3) rfl) rfl ?_
            refine cv_iload C (pc' := 63) rfl (D 38 (61, .iload 5, 2) rfl) (j := 0) rfl ?_
            refine cv_aald C (pc' := 64) rfl (k0 := 11) (j := p) (r := 12 + p) (by decide) rfl rfl rfl (cv_ix_p hp6) (by decide) (D 39 (63, .aaload, 1) rfl) ?_
            refine cv_iload_n C (pc' := 65) rfl (D 40 (64, .iload_n 1, 1) rfl) rfl (j := 3) rfl ?_
            refine cv_iload_n C (pc' := 66) rfl (D 41 (65, .iload_n 2, 1) rfl) rfl (j := 4) rfl ?_
            refine cv_callV C (pc' := 69) rfl (k0 := 10) (ci := 0) (As := [.ref (12 + p), .int (nI v), .int (nI d)]) (rest := []) (idx := 92) (np := 3) (kX0_arrival L p v d σ hL hB hp (by omega) (by omega)) (by decide) rfl rfl rfl (by decide +kernel) rfl wmX0_92 wi_yX0_arrival ws_yX0_arrival wn_X0 wc_yX0_arrival (by decide) (by decide) (D 42 (66, .invokevirtual 92, 3) rfl) (Nat.le_of_ble_eq_true rfl) rfl (fun w9 u9 h9 => ?_)
            rw [h9.1, h9.2]
            show cv_At X _ _ σ 69 _ [.int (cv_o (cv_ar L p v d))]
            refine cv_istore C (pc' := 71) rfl (D 43 (69, .istore 6, 2) rfl) (by decide) (lv' := [(6, .int (cv_o (cv_ar L p v d))), (5, .int (nI p)), (4, .int (nI (cv_rl L (fun q => decide (nI q = x)) f v d i0 p))), (0, .ref 10), (1, .int (nI v)), (2, .int (nI d)), (3, .int x)]) rfl ?_
            refine cv_iload C (pc' := 73) rfl (D 44 (71, .iload 6, 2) rfl) (j := 0) rfl ?_
            refine cv_bipush C (pc' := 75) rfl (D 45 (73, .bipush (-9), 2) rfl) (v := -9) (by decide) ?_
            refine cv_icmp_eqO C (pc' := 78) rfl (fun z h => Nat.lt_of_le_of_lt (cv_ar_le h) (by decide)) (tgt := 104) (D 46 (75, .if_icmp .eq 29, 3) rfl) (by decide) (fun b75 => ?_) (fun z75 b75 => ?_)
            · skip
              refine cv_iincN C (pc' := 107) rfl (D 63 (104, .iinc 5 1, 3) rfl) (j := 1) rfl (by decide) (lv' := [(5, .int (nI (p + 1))), (6, .int (cv_o (cv_ar L p v d))), (4, .int (nI (cv_rl L (fun q => decide (nI q = x)) f v d i0 p))), (0, .ref 10), (1, .int (nI v)), (2, .int (nI d)), (3, .int x)]) rfl ?_
              refine cv_goto C (tgt := 36) (D 64 (107, .goto (-71), 3) rfl) (by decide) ?_
              have hw : cv_rl L (fun q => decide (nI q = x)) f v d i0 p = cv_rl L (fun q => decide (nI q = x)) f v d i0 (p + 1) := by simp [cv_rl, cv_rc, b48, b75]
              rw [hw]
              refine cv_pick [0, 2, 3, 4, 5, 6] (lv' := [(5, .int (nI (p + 1))), (4, .int (nI (cv_rl L (fun q => decide (nI q = x)) f v d i0 (p + 1)))), (0, .ref 10), (1, .int (nI v)), (2, .int (nI d)), (3, .int x)]) rfl ?_
              exact ih36 (p + 1) (by omega)
            · skip
              have ez75 : cv_o (cv_ar L p v d) = nI z75 := by rw [b75]; rfl
              rw [ez75]
              refine cv_iload C (pc' := 80) rfl (D 47 (78, .iload 4, 2) rfl) (j := 2) rfl ?_
              refine cv_aload_n C (pc' := 81) rfl (D 48 (80, .aload_n 0, 1) rfl) rfl (j := 3) rfl ?_
              refine cv_get C (pc' := 84) rfl (k0 := 10) (i := 3) (ci := 0) (by decide) rfl rfl (by decide) (o := some 20) rfl iw_X0 wfX0_24 (D 49 (81, .getfield 24, 3) rfl) rfl ?_
              refine cv_iload C (pc' := 86) rfl (D 50 (84, .iload 6, 2) rfl) (j := 0) rfl ?_
              refine cv_iconst C (pc' := 87) rfl (D 51 (86, .iconst 3, 1) rfl) (v := nI 3) (by decide) ?_
              refine cv_imulN C (pc' := 88) rfl (D 52 (87, .imul, 1) rfl) ?_
              refine cv_aload_n C (pc' := 89) rfl (D 53 (88, .aload_n 0, 1) rfl) rfl (j := 3) rfl ?_
              refine cv_get C (pc' := 92) rfl (k0 := 10) (i := 0) (ci := 0) (by decide) rfl rfl (by decide) (o := some 11) rfl iw_X0 wfX0_11 (D 54 (89, .getfield 11, 3) rfl) rfl ?_
              refine cv_iload C (pc' := 94) rfl (D 55 (92, .iload 5, 2) rfl) (j := 1) rfl ?_
              refine cv_aald C (pc' := 95) rfl (k0 := 11) (j := p) (r := 12 + p) (by decide) rfl rfl rfl (cv_ix_p hp6) (by decide) (D 56 (94, .aaload, 1) rfl) ?_
              refine cv_iload_n C (pc' := 96) rfl (D 57 (95, .iload_n 1, 1) rfl) rfl (j := 4) rfl ?_
              refine cv_callV C (pc' := 99) rfl (k0 := 12 + p) (ci := 1) (As := [.int (nI v)]) (rest := [.int (nI (z75 * 3)), .ref 20, .int (nI (cv_rl L (fun q => decide (nI q = x)) f v d i0 p))]) (idx := 77) (np := 1) (kX1_otherEnd L p v σ hL hB hp (by omega)) (cv_lt_p hp6) (cv_shC_p hp6) rfl rfl (by decide +kernel) rfl wmX0_77 wi_yX1_otherEnd ws_yX1_otherEnd wn_X1 wc_yX1_otherEnd (by decide) (by decide) (D 58 (96, .invokevirtual 77, 3) rfl) (Nat.le_of_ble_eq_true rfl) rfl (fun w9 u9 h9 => ?_)
              rw [h9.1, h9.2]
              show cv_At X _ _ σ 99 _ [.int (cv_o (cv_oe L p v)), .int (nI (z75 * 3)), .ref 20, .int (nI (cv_rl L (fun q => decide (nI q = x)) f v d i0 p))]
              obtain ⟨q, hq⟩ : ∃ q, cv_oe L p v = some q := by
                cases ho : cv_oe L p v with
                | some q => exact ⟨q, rfl⟩
                | none => exact absurd b75 (by simp [cv_ar, ho])
              have b75oe := hq
              have hq2 := cv_oe_le hB hp hq
              have hz7 := cv_ar_le b75
              have hz8 : d < z75 := by have := cv_ar_gt hB hp b75; omega
              refine cv_top (w := nI q) (by rw [hq]; rfl) ?_
              refine cv_iaddN C (pc' := 100) rfl (D 59 (99, .iadd, 1) rfl) ?_
              refine cv_iald C (pc' := 101) rfl (k0 := 20) (j := (z75 * 3) + q) (by decide) rfl rfl (by omega) (by decide) (D 60 (100, .iaload, 1) rfl) (v := nI (f ((z75 * 3) + q))) (hT _ (by omega) (by omega)) ?_
              refine cv_iorN C (pc' := 102) rfl (D 61 (101, .ior, 1) rfl) ?_
              refine cv_istore C (pc' := 104) rfl (D 62 (102, .istore 4, 2) rfl) (by decide) (lv' := [(4, .int (nI ((cv_rl L (fun q => decide (nI q = x)) f v d i0 p) ||| (f ((z75 * 3) + q))))), (6, .int (nI z75)), (5, .int (nI p)), (0, .ref 10), (1, .int (nI v)), (2, .int (nI d)), (3, .int x)]) rfl ?_
              refine cv_iincN C (pc' := 107) rfl (D 63 (104, .iinc 5 1, 3) rfl) (j := 2) rfl (by decide) (lv' := [(5, .int (nI (p + 1))), (4, .int (nI ((cv_rl L (fun q => decide (nI q = x)) f v d i0 p) ||| (f ((z75 * 3) + q))))), (6, .int (nI z75)), (0, .ref 10), (1, .int (nI v)), (2, .int (nI d)), (3, .int x)]) rfl ?_
              refine cv_goto C (tgt := 36) (D 64 (107, .goto (-71), 3) rfl) (by decide) ?_
              have hw : (cv_rl L (fun q => decide (nI q = x)) f v d i0 p) ||| (f ((z75 * 3) + q)) = cv_rl L (fun q => decide (nI q = x)) f v d i0 (p + 1) := by simp [cv_rl, cv_rc, b48, b75, b75oe]
              rw [hw]
              refine cv_pick [0, 1, 3, 4, 5, 6] (lv' := [(5, .int (nI (p + 1))), (4, .int (nI (cv_rl L (fun q => decide (nI q = x)) f v d i0 (p + 1)))), (0, .ref 10), (1, .int (nI v)), (2, .int (nI d)), (3, .int x)]) rfl ?_
              exact ih36 (p + 1) (by omega)
          · skip
            refine cv_bipush C (pc' := 53) rfl (D 33 (51, .bipush (-9), 2) rfl) (v := -9) (by decide) ?_
            refine cv_goto C (tgt := 69) (D 34 (53, .goto 16, 3) rfl) (by decide) ?_
            refine cv_istore C (pc' := 71) rfl (D 43 (69, .istore 6, 2) rfl) (by decide) (lv' := [(6, .int (-9)), (5, .int (nI p)), (4, .int (nI (cv_rl L (fun q => decide (nI q = x)) f v d i0 p))), (0, .ref 10), (1, .int (nI v)), (2, .int (nI d)), (3, .int x)]) rfl ?_
            refine cv_iload C (pc' := 73) rfl (D 44 (71, .iload 6, 2) rfl) (j := 0) rfl ?_
            refine cv_bipush C (pc' := 75) rfl (D 45 (73, .bipush (-9), 2) rfl) (v := -9) (by decide) ?_
            refine cv_icmp_eq C (pc' := 78) rfl (tgt := 104) (D 46 (75, .if_icmp .eq 29, 3) rfl) (by decide) (fun _ => ?_) (fun h => absurd h (by decide))
            refine cv_iincN C (pc' := 107) rfl (D 63 (104, .iinc 5 1, 3) rfl) (j := 1) rfl (by decide) (lv' := [(5, .int (nI (p + 1))), (6, .int (-9)), (4, .int (nI (cv_rl L (fun q => decide (nI q = x)) f v d i0 p))), (0, .ref 10), (1, .int (nI v)), (2, .int (nI d)), (3, .int x)]) rfl ?_
            refine cv_goto C (tgt := 36) (D 64 (107, .goto (-71), 3) rfl) (by decide) ?_
            have hw : cv_rl L (fun q => decide (nI q = x)) f v d i0 p = cv_rl L (fun q => decide (nI q = x)) f v d i0 (p + 1) := by simp [cv_rl, cv_rc, b48]
            rw [hw]
            refine cv_pick [0, 2, 3, 4, 5, 6] (lv' := [(5, .int (nI (p + 1))), (4, .int (nI (cv_rl L (fun q => decide (nI q = x)) f v d i0 (p + 1)))), (0, .ref 10), (1, .int (nI v)), (2, .int (nI d)), (3, .int x)]) rfl ?_
            exact ih36 (p + 1) (by omega)
    exact LP36 (L 7 0) 0 (by omega)
