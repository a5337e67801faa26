set_option maxHeartbeats 4000000 in
set_option maxRecDepth 100000 in
theorem kX0_isSafeBy (L : cv_L) (f : Nat → Nat) (w d : Nat) (σ : cv_St) (hL : cv_LC L σ) (hB : cv_LB L) (hT : cv_TC f σ) (hw : w < 8) (hd : d < 8) : cv_Ct yX0_isSafeBy cX0_isSafeBy 6 (some .boolean) 4 0 0 26 cv_shC [.ref 10, .int (nI w), .int (nI d)] σ (cv_pu (.int (cv_b (cv_al (fun h => cv_by (cv_dw f (L 6 0) d (cv_clr (L 6 1) (h / 8)) (cv_clr (L 6 2) (h % 8))) w) 64))) σ) := by
  refine cv_enter (own := RX0) (by decide) rfl (Nat.le_of_ble_eq_true rfl) ?_
  intro X a C Rt hRm
  have D := @cv_dec _ _ dkX0_isSafeBy
  have hg1 := hB.2.2.2 1 (by decide)
  have hg2 := hB.2.2.2 2 (by decide)
  show cv_At X _ _ σ 0 [(0, .ref 10), (1, .int (nI w)), (2, .int (nI d))] []
  refine cv_iconst C (pc' := 1) rfl (D 0 (0, .iconst 0, 1) rfl) (v := nI 0) (by decide) ?_
  refine cv_istore_n C (pc' := 2) rfl (D 1 (1, .istore_n 3, 1) rfl) rfl (by decide) (lv' := [(3, .int (nI 0)), (0, .ref 10), (1, .int (nI w)), (2, .int (nI d))]) rfl ?_
  have LP2 : ∀ (r : Nat) (i : Nat), (i + r = 64) → (∀ q, q < i → (fun h => cv_by (cv_dw f (L 6 0) d (cv_clr (L 6 1) (h / 8)) (cv_clr (L 6 2) (h % 8))) w) q = true) → cv_At X (26, cv_shC, 0, 0, a) 6 σ 2 [(3, .int (nI i)), (0, .ref 10), (1, .int (nI w)), (2, .int (nI d))] [] := by
    intro r
    induction r with
    | zero =>
      intro i hr h0
      obtain rfl : i = 64 := by omega
      refine cv_iload_n C (pc' := 3) rfl (D 2 (2, .iload_n 3, 1) rfl) rfl (j := 0) rfl ?_
      refine cv_bipush C (pc' := 5) rfl (D 3 (3, .bipush 64, 2) rfl) (v := nI 64) (by decide) ?_
      refine cv_icmp_ge C (pc' := 8) rfl (tgt := 63) (D 4 (5, .if_icmp .ge 58, 3) rfl) (by decide) (fun _ => ?_) (fun h => absurd h (by decide))
      refine cv_iconst C (pc' := 64) rfl (D 42 (63, .iconst 1, 1) rfl) (v := nI 1) (by decide) ?_
      exact cv_iret C Rt (by decide) (D 43 (64, .ireturn, 1) rfl) ⟨congrArg (fun z => some (Value.int z)) (by rw [cv_al_t h0]; rfl), rfl⟩
    | succ r ih2 =>
      intro i hr h0
      have hc1 := cv_clr_le (L 6 1) (i / 8)
      have hc2 := cv_clr_le (L 6 2) (i % 8)
      refine cv_iload_n C (pc' := 3) rfl (D 2 (2, .iload_n 3, 1) rfl) rfl (j := 0) rfl ?_
      refine cv_bipush C (pc' := 5) rfl (D 3 (3, .bipush 64, 2) rfl) (v := nI 64) (by decide) ?_
      refine cv_icmp_geN C (pc' := 8) rfl (by omega) (by omega) (tgt := 63) (D 4 (5, .if_icmp .ge 58, 3) rfl) (by decide) (fun b5 => ?_) (fun b5 => ?_)
      · skip
        omega
      · skip
        refine cv_aload_n C (pc' := 9) rfl (D 5 (8, .aload_n 0, 1) rfl) rfl (j := 1) rfl ?_
        refine cv_get C (pc' := 12) rfl (k0 := 10) (i := 2) (ci := 0) (by decide) rfl rfl (by decide) (o := some 19) rfl iw_X0 wfX0_21 (D 6 (9, .getfield 21, 3) rfl) rfl ?_
        refine cv_iconst C (pc' := 13) rfl (D 7 (12, .iconst 1, 1) rfl) (v := nI 1) (by decide) ?_
        refine cv_iald C (pc' := 14) rfl (k0 := 19) (j := 1) (by decide) rfl rfl (by omega) (by decide) (D 8 (13, .iaload, 1) rfl) (v := nI (L 6 1)) (hL.2.2.1 _ (by omega)) ?_
        refine cv_iconst C (pc' := 15) rfl (D 9 (14, .iconst 1, 1) rfl) (v := nI 1) (by decide) ?_
        refine cv_iload_n C (pc' := 16) rfl (D 10 (15, .iload_n 3, 1) rfl) rfl (j := 0) rfl ?_
        refine cv_bipush C (pc' := 18) rfl (D 11 (16, .bipush 8, 2) rfl) (v := nI 8) (by decide) ?_
        refine cv_idivN C (pc' := 19) rfl (by omega) (by decide) (by decide) (D 12 (18, .idiv, 1) rfl) ?_
        refine cv_ishl1 C (pc' := 20) rfl (by omega) (D 13 (19, .ishl, 1) rfl) ?_
        refine cv_iconst C (pc' := 21) rfl (D 14 (20, .iconst (-1), 1) rfl) (v := -1) (by decide) ?_
        refine cv_ixor C (pc' := 22) rfl (D 15 (21, .ixor, 1) rfl) ?_
        refine cv_iand C (pc' := 23) rfl (D 16 (22, .iand, 1) rfl) ?_
        refine cv_top (w := nI (cv_clr (L 6 1) (i / 8))) (cv_clrN _ _) ?_
        refine cv_istore C (pc' := 25) rfl (D 17 (23, .istore 4, 2) rfl) (by decide) (lv' := [(4, .int (nI (cv_clr (L 6 1) (i / 8)))), (3, .int (nI i)), (0, .ref 10), (1, .int (nI w)), (2, .int (nI d))]) rfl ?_
        refine cv_aload_n C (pc' := 26) rfl (D 18 (25, .aload_n 0, 1) rfl) rfl (j := 2) rfl ?_
        refine cv_get C (pc' := 29) rfl (k0 := 10) (i := 2) (ci := 0) (by decide) rfl rfl (by decide) (o := some 19) rfl iw_X0 wfX0_21 (D 19 (26, .getfield 21, 3) rfl) rfl ?_
        refine cv_iconst C (pc' := 30) rfl (D 20 (29, .iconst 2, 1) rfl) (v := nI 2) (by decide) ?_
        refine cv_iald C (pc' := 31) rfl (k0 := 19) (j := 2) (by decide) rfl rfl (by omega) (by decide) (D 21 (30, .iaload, 1) rfl) (v := nI (L 6 2)) (hL.2.2.1 _ (by omega)) ?_
        refine cv_iconst C (pc' := 32) rfl (D 22 (31, .iconst 1, 1) rfl) (v := nI 1) (by decide) ?_
        refine cv_iload_n C (pc' := 33) rfl (D 23 (32, .iload_n 3, 1) rfl) rfl (j := 1) rfl ?_
        refine cv_bipush C (pc' := 35) rfl (D 24 (33, .bipush 8, 2) rfl) (v := nI 8) (by decide) ?_
        refine cv_iremN C (pc' := 36) rfl (by omega) (by decide) (by decide) (D 25 (35, .irem, 1) rfl) ?_
        refine cv_ishl1 C (pc' := 37) rfl (by omega) (D 26 (36, .ishl, 1) rfl) ?_
        refine cv_iconst C (pc' := 38) rfl (D 27 (37, .iconst (-1), 1) rfl) (v := -1) (by decide) ?_
        refine cv_ixor C (pc' := 39) rfl (D 28 (38, .ixor, 1) rfl) ?_
        refine cv_iand C (pc' := 40) rfl (D 29 (39, .iand, 1) rfl) ?_
        refine cv_top (w := nI (cv_clr (L 6 2) (i % 8))) (cv_clrN _ _) ?_
        refine cv_istore C (pc' := 42) rfl (D 30 (40, .istore 5, 2) rfl) (by decide) (lv' := [(5, .int (nI (cv_clr (L 6 2) (i % 8)))), (4, .int (nI (cv_clr (L 6 1) (i / 8)))), (3, .int (nI i)), (0, .ref 10), (1, .int (nI w)), (2, .int (nI d))]) rfl ?_
        refine cv_aload_n C (pc' := 43) rfl (D 31 (42, .aload_n 0, 1) rfl) rfl (j := 3) rfl ?_
        refine cv_iload_n C (pc' := 44) rfl (D 32 (43, .iload_n 1, 1) rfl) rfl (j := 4) rfl ?_
        refine cv_iload_n C (pc' := 45) rfl (D 33 (44, .iload_n 2, 1) rfl) rfl (j := 5) rfl ?_
        refine cv_iload C (pc' := 47) rfl (D 34 (45, .iload 4, 2) rfl) (j := 1) rfl ?_
        refine cv_iload C (pc' := 49) rfl (D 35 (47, .iload 5, 2) rfl) (j := 0) rfl ?_
        refine cv_callV C (pc' := 52) rfl (k0 := 10) (ci := 0) (As := [.int (nI w), .int (nI d), .int (nI (cv_clr (L 6 1) (i / 8))), .int (nI (cv_clr (L 6 2) (i % 8)))]) (rest := []) (idx := 107) (np := 4) (kX0_isDoneBy L f w d (cv_clr (L 6 1) (i / 8)) (cv_clr (L 6 2) (i % 8)) σ hL hB hT (by omega) (by omega) (by omega) (by omega)) (by decide) rfl rfl rfl (by decide +kernel) rfl wmX0_107 wi_yX0_isDoneBy ws_yX0_isDoneBy wn_X0 wc_yX0_isDoneBy (by decide) (by decide) (D 36 (49, .invokevirtual 107, 3) rfl) (Nat.le_of_ble_eq_true rfl) rfl (fun w9 u9 h9 => ?_)
        rw [h9.1, h9.2]
        show cv_At X _ _ σ 52 _ [.int (cv_b (cv_by (cv_dw f (L 6 0) d (cv_clr (L 6 1) (i / 8)) (cv_clr (L 6 2) (i % 8))) w))]
        refine cv_if_neB C (pc' := 55) rfl (tgt := 57) (D 37 (52, .ifCond .ne 5, 3) rfl) (by decide) (fun b52 => ?_) (fun b52 => ?_)
        · skip
          refine cv_iincN C (pc' := 60) rfl (D 40 (57, .iinc 3 1, 3) rfl) (j := 2) rfl (by decide) (lv' := [(3, .int (nI (i + 1))), (5, .int (nI (cv_clr (L 6 2) (i % 8)))), (4, .int (nI (cv_clr (L 6 1) (i / 8)))), (0, .ref 10), (1, .int (nI w)), (2, .int (nI d))]) rfl ?_
          refine cv_goto C (tgt := 2) (D 41 (60, .goto (-58), 3) rfl) (by decide) ?_
          refine cv_pick [0, 3, 4, 5] (lv' := [(3, .int (nI (i + 1))), (0, .ref 10), (1, .int (nI w)), (2, .int (nI d))]) rfl ?_
          exact ih2 (i + 1) (by omega) (cv_ex h0 b52)
        · skip
          refine cv_iconst C (pc' := 56) rfl (D 38 (55, .iconst 0, 1) rfl) (v := nI 0) (by decide) ?_
          exact cv_iret C Rt (by decide) (D 39 (56, .ireturn, 1) rfl) ⟨congrArg (fun z => some (Value.int z)) (by rw [cv_al_f (k := i) (by omega) b52]; rfl), rfl⟩
  exact LP2 64 0 (by decide) (fun q h => by omega)

def cv_pe (f : Nat → Nat) (g0 g1 g2 d w : Nat) : Option Nat := if cv_by (cv_dw f g0 d g1 g2) w = true then some 0 else if cv_by (cv_dw f g0 d 255 g2) w = true ∨ cv_by (cv_dw f g0 d g1 255) w = true then some 1 else if cv_by (cv_dw f g0 d 255 255) w = true then some 2 else none
set_option maxHeartbeats 4000000 in
set_option maxRecDepth 100000 in
theorem kX0_daysToPeace (L : cv_L) (f : Nat → Nat) (w d : Nat) (σ : cv_St) (hL : cv_LC L σ) (hB : cv_LB L) (hT : cv_TC f σ) (hw : w < 8) (hd : d < 8) : cv_Ct yX0_daysToPeace cX0_daysToPeace 3 (some .int) 4 0 0 26 cv_shC [.ref 10, .int (nI w), .int (nI d)] σ (cv_pu (.int (cv_o (cv_pe f (L 6 0) (L 6 1) (L 6 2) d w))) σ) := by
  refine cv_enter (own := RX0) (by decide) rfl (Nat.le_of_ble_eq_true rfl) ?_
  intro X a C Rt hRm
  have D := @cv_dec _ _ dkX0_daysToPeace
  have hg1 := hB.2.2.2 1 (by decide)
  have hg2 := hB.2.2.2 2 (by decide)
  show cv_At X _ _ σ 0 [(0, .ref 10), (1, .int (nI w)), (2, .int (nI d))] []
  refine cv_aload_n C (pc' := 1) rfl (D 0 (0, .aload_n 0, 1) rfl) rfl (j := 0) rfl ?_
  refine cv_iload_n C (pc' := 2) rfl (D 1 (1, .iload_n 1, 1) rfl) rfl (j := 1) rfl ?_
  refine cv_iload_n C (pc' := 3) rfl (D 2 (2, .iload_n 2, 1) rfl) rfl (j := 2) rfl ?_
  refine cv_aload_n C (pc' := 4) rfl (D 3 (3, .aload_n 0, 1) rfl) rfl (j := 0) rfl ?_
  refine cv_get C (pc' := 7) rfl (k0 := 10) (i := 2) (ci := 0) (by decide) rfl rfl (by decide) (o := some 19) rfl iw_X0 wfX0_21 (D 4 (4, .getfield 21, 3) rfl) rfl ?_
  refine cv_iconst C (pc' := 8) rfl (D 5 (7, .iconst 1, 1) rfl) (v := nI 1) (by decide) ?_
  refine cv_iald C (pc' := 9) rfl (k0 := 19) (j := 1) (by decide) rfl rfl (by omega) (by decide) (D 6 (8, .iaload, 1) rfl) (v := nI (L 6 1)) (hL.2.2.1 _ (by omega)) ?_
  refine cv_aload_n C (pc' := 10) rfl (D 7 (9, .aload_n 0, 1) rfl) rfl (j := 0) rfl ?_
  refine cv_get C (pc' := 13) rfl (k0 := 10) (i := 2) (ci := 0) (by decide) rfl rfl (by decide) (o := some 19) rfl iw_X0 wfX0_21 (D 8 (10, .getfield 21, 3) rfl) rfl ?_
  refine cv_iconst C (pc' := 14) rfl (D 9 (13, .iconst 2, 1) rfl) (v := nI 2) (by decide) ?_
  refine cv_iald C (pc' := 15) rfl (k0 := 19) (j := 2) (by decide) rfl rfl (by omega) (by decide) (D 10 (14, .iaload, 1) rfl) (v := nI (L 6 2)) (hL.2.2.1 _ (by omega)) ?_
  refine cv_callV C (pc' := 18) rfl (k0 := 10) (ci := 0) (As := [.int (nI w), .int (nI d), .int (nI (L 6 1)), .int (nI (L 6 2))]) (rest := []) (idx := 107) (np := 4) (kX0_isDoneBy L f w d (L 6 1) (L 6 2) σ hL hB hT (by omega) (by omega) (by omega) (by omega)) (by decide) rfl rfl rfl (by decide +kernel) rfl wmX0_107 wi_yX0_isDoneBy ws_yX0_isDoneBy wn_X0 wc_yX0_isDoneBy (by decide) (by decide) (D 11 (15, .invokevirtual 107, 3) rfl) (Nat.le_of_ble_eq_true rfl) rfl (fun w9 u9 h9 => ?_)
  rw [h9.1, h9.2]
  show cv_At X _ _ σ 18 _ [.int (cv_b (cv_by (cv_dw f (L 6 0) d (L 6 1) (L 6 2)) w))]
  refine cv_if_eqB C (pc' := 21) rfl (tgt := 23) (D 12 (18, .ifCond .eq 5, 3) rfl) (by decide) (fun b18 => ?_) (fun b18 => ?_)
  · skip
    refine cv_aload_n C (pc' := 24) rfl (D 15 (23, .aload_n 0, 1) rfl) rfl (j := 0) rfl ?_
    refine cv_iload_n C (pc' := 25) rfl (D 16 (24, .iload_n 1, 1) rfl) rfl (j := 1) rfl ?_
    refine cv_iload_n C (pc' := 26) rfl (D 17 (25, .iload_n 2, 1) rfl) rfl (j := 2) rfl ?_
    refine cv_sipush C (pc' := 29) rfl (D 18 (26, .sipush 255, 3) rfl) (v := nI 255) (by decide) ?_
    refine cv_aload_n C (pc' := 30) rfl (D 19 (29, .aload_n 0, 1) rfl) rfl (j := 0) rfl ?_
    refine cv_get C (pc' := 33) rfl (k0 := 10) (i := 2) (ci := 0) (by decide) rfl rfl (by decide) (o := some 19) rfl iw_X0 wfX0_21 (D 20 (30, .getfield 21, 3) rfl) rfl ?_
    refine cv_iconst C (pc' := 34) rfl (D 21 (33, .iconst 2, 1) rfl) (v := nI 2) (by decide) ?_
    refine cv_iald C (pc' := 35) rfl (k0 := 19) (j := 2) (by decide) rfl rfl (by omega) (by decide) (D 22 (34, .iaload, 1) rfl) (v := nI (L 6 2)) (hL.2.2.1 _ (by omega)) ?_
    refine cv_callV C (pc' := 38) rfl (k0 := 10) (ci := 0) (As := [.int (nI w), .int (nI d), .int (nI 255), .int (nI (L 6 2))]) (rest := []) (idx := 107) (np := 4) (kX0_isDoneBy L f w d 255 (L 6 2) σ hL hB hT (by omega) (by omega) (by omega) (by omega)) (by decide) rfl rfl rfl (by decide +kernel) rfl wmX0_107 wi_yX0_isDoneBy ws_yX0_isDoneBy wn_X0 wc_yX0_isDoneBy (by decide) (by decide) (D 23 (35, .invokevirtual 107, 3) rfl) (Nat.le_of_ble_eq_true rfl) rfl (fun w9 u9 h9 => ?_)
    rw [h9.1, h9.2]
    show cv_At X _ _ σ 38 _ [.int (cv_b (cv_by (cv_dw f (L 6 0) d 255 (L 6 2)) w))]
    refine cv_if_neB C (pc' := 41) rfl (tgt := 59) (D 24 (38, .ifCond .ne 21, 3) rfl) (by decide) (fun b38 => ?_) (fun b38 => ?_)
    · skip
      refine cv_iconst C (pc' := 60) rfl (D 35 (59, .iconst 1, 1) rfl) (v := nI 1) (by decide) ?_
      exact cv_iret C Rt rfl (D 36 (60, .ireturn, 1) rfl) ⟨congrArg (fun z => some (Value.int z)) (by unfold cv_pe; rw [if_neg (by simp [b18]), if_pos (Or.inl b38)]; rfl), rfl⟩
    · skip
      refine cv_aload_n C (pc' := 42) rfl (D 25 (41, .aload_n 0, 1) rfl) rfl (j := 0) rfl ?_
      refine cv_iload_n C (pc' := 43) rfl (D 26 (42, .iload_n 1, 1) rfl) rfl (j := 1) rfl ?_
      refine cv_iload_n C (pc' := 44) rfl (D 27 (43, .iload_n 2, 1) rfl) rfl (j := 2) rfl ?_
      refine cv_aload_n C (pc' := 45) rfl (D 28 (44, .aload_n 0, 1) rfl) rfl (j := 0) rfl ?_
      refine cv_get C (pc' := 48) rfl (k0 := 10) (i := 2) (ci := 0) (by decide) rfl rfl (by decide) (o := some 19) rfl iw_X0 wfX0_21 (D 29 (45, .getfield 21, 3) rfl) rfl ?_
      refine cv_iconst C (pc' := 49) rfl (D 30 (48, .iconst 1, 1) rfl) (v := nI 1) (by decide) ?_
      refine cv_iald C (pc' := 50) rfl (k0 := 19) (j := 1) (by decide) rfl rfl (by omega) (by decide) (D 31 (49, .iaload, 1) rfl) (v := nI (L 6 1)) (hL.2.2.1 _ (by omega)) ?_
      refine cv_sipush C (pc' := 53) rfl (D 32 (50, .sipush 255, 3) rfl) (v := nI 255) (by decide) ?_
      refine cv_callV C (pc' := 56) rfl (k0 := 10) (ci := 0) (As := [.int (nI w), .int (nI d), .int (nI (L 6 1)), .int (nI 255)]) (rest := []) (idx := 107) (np := 4) (kX0_isDoneBy L f w d (L 6 1) 255 σ hL hB hT (by omega) (by omega) (by omega) (by omega)) (by decide) rfl rfl rfl (by decide +kernel) rfl wmX0_107 wi_yX0_isDoneBy ws_yX0_isDoneBy wn_X0 wc_yX0_isDoneBy (by decide) (by decide) (D 33 (53, .invokevirtual 107, 3) rfl) (Nat.le_of_ble_eq_true rfl) rfl (fun w9 u9 h9 => ?_)
      rw [h9.1, h9.2]
      show cv_At X _ _ σ 56 _ [.int (cv_b (cv_by (cv_dw f (L 6 0) d (L 6 1) 255) w))]
      refine cv_if_eqB C (pc' := 59) rfl (tgt := 61) (D 34 (56, .ifCond .eq 5, 3) rfl) (by decide) (fun b56 => ?_) (fun b56 => ?_)
      · skip
        refine cv_aload_n C (pc' := 62) rfl (D 37 (61, .aload_n 0, 1) rfl) rfl (j := 0) rfl ?_
        refine cv_iload_n C (pc' := 63) rfl (D 38 (62, .iload_n 1, 1) rfl) rfl (j := 1) rfl ?_
        refine cv_iload_n C (pc' := 64) rfl (D 39 (63, .iload_n 2, 1) rfl) rfl (j := 2) rfl ?_
        refine cv_sipush C (pc' := 67) rfl (D 40 (64, .sipush 255, 3) rfl) (v := nI 255) (by decide) ?_
        refine cv_sipush C (pc' := 70) rfl (D 41 (67, .sipush 255, 3) rfl) (v := nI 255) (by decide) ?_
        refine cv_callV C (pc' := 73) rfl (k0 := 10) (ci := 0) (As := [.int (nI w), .int (nI d), .int (nI 255), .int (nI 255)]) (rest := []) (idx := 107) (np := 4) (kX0_isDoneBy L f w d 255 255 σ hL hB hT (by omega) (by omega) (by omega) (by omega)) (by decide) rfl rfl rfl (by decide +kernel) rfl wmX0_107 wi_yX0_isDoneBy ws_yX0_isDoneBy wn_X0 wc_yX0_isDoneBy (by decide) (by decide) (D 42 (70, .invokevirtual 107, 3) rfl) (Nat.le_of_ble_eq_true rfl) rfl (fun w9 u9 h9 => ?_)
        rw [h9.1, h9.2]
        show cv_At X _ _ σ 73 _ [.int (cv_b (cv_by (cv_dw f (L 6 0) d 255 255) w))]
        refine cv_if_eqB C (pc' := 76) rfl (tgt := 80) (D 43 (73, .ifCond .eq 7, 3) rfl) (by decide) (fun b73 => ?_) (fun b73 => ?_)
        · skip
          refine cv_bipush C (pc' := 82) rfl (D 46 (80, .bipush (-9), 2) rfl) (v := -9) (by decide) ?_
          exact cv_iret C Rt rfl (D 47 (82, .ireturn, 1) rfl) ⟨congrArg (fun z => some (Value.int z)) (by unfold cv_pe; rw [if_neg (by simp [b18]), if_neg (by simp [b38, b56]), if_neg (by simp [b73])]; rfl), rfl⟩
        · skip
          refine cv_iconst C (pc' := 77) rfl (D 44 (76, .iconst 2, 1) rfl) (v := nI 2) (by decide) ?_
          refine cv_goto C (tgt := 82) (D 45 (77, .goto 5, 3) rfl) (by decide) ?_
          exact cv_iret C Rt rfl (D 47 (82, .ireturn, 1) rfl) ⟨congrArg (fun z => some (Value.int z)) (by unfold cv_pe; rw [if_neg (by simp [b18]), if_neg (by simp [b38, b56]), if_pos b73]; rfl), rfl⟩
      · skip
        refine cv_iconst C (pc' := 60) rfl (D 35 (59, .iconst 1, 1) rfl) (v := nI 1) (by decide) ?_
        exact cv_iret C Rt rfl (D 36 (60, .ireturn, 1) rfl) ⟨congrArg (fun z => some (Value.int z)) (by unfold cv_pe; rw [if_neg (by simp [b18]), if_pos (Or.inr b56)]; rfl), rfl⟩
  · skip
    refine cv_iconst C (pc' := 22) rfl (D 13 (21, .iconst 0, 1) rfl) (v := nI 0) (by decide) ?_
    exact cv_iret C Rt rfl (D 14 (22, .ireturn, 1) rfl) ⟨congrArg (fun z => some (Value.int z)) (by unfold cv_pe; rw [if_pos b18]; rfl), rfl⟩

theorem cv_xm1 (g : Nat) : nI g ^^^ -1 = nI (g ^^^ 4294967295) := by rw [show (-1 : Int32) = nI 4294967295 by decide, cv_xorN]
set_option maxHeartbeats 4000000 in
set_option maxRecDepth 100000 in
theorem kX0_setsDoneBy1 (L : cv_L) (f : Nat → Nat) (w d : Nat) (σ : cv_St) (hL : cv_LC L σ) (hB : cv_LB L) (hT : cv_TC f σ) (hw : w < 8) (hd : d < 8) : cv_Ct yX0_setsDoneBy cX0_setsDoneBy 9 (some .int) 4 0 0 26 cv_shC [.ref 10, .int (nI w), .int (nI d), .int (nI 1)] σ (cv_pu (.int (nI (cv_cnt (fun i => decide (i &&& (L 6 1 ^^^ 4294967295) = 0) && cv_by (cv_dw f (L 6 0) d i (L 6 2)) w) 256))) σ) := by
  refine cv_enter (own := RX0) (by decide) rfl (Nat.le_of_ble_eq_true rfl) ?_
  intro X a C Rt hRm
  have D := @cv_dec _ _ dkX0_setsDoneBy
  have hg1 := hB.2.2.2 1 (by decide)
  have hg2 := hB.2.2.2 2 (by decide)
  show cv_At X _ _ σ 0 [(0, .ref 10), (1, .int (nI w)), (2, .int (nI d)), (3, .int (nI 1))] []
  refine cv_iconst C (pc' := 1) rfl (D 0 (0, .iconst 0, 1) rfl) (v := nI 0) (by decide) ?_
  refine cv_istore C (pc' := 3) rfl (D 1 (1, .istore 4, 2) rfl) (by decide) (lv' := [(4, .int (nI 0)), (0, .ref 10), (1, .int (nI w)), (2, .int (nI d)), (3, .int (nI 1))]) rfl ?_
  refine cv_iconst C (pc' := 4) rfl (D 2 (3, .iconst 0, 1) rfl) (v := nI 0) (by decide) ?_
  refine cv_istore C (pc' := 6) rfl (D 3 (4, .istore 5, 2) rfl) (by decide) (lv' := [(5, .int (nI 0)), (4, .int (nI 0)), (0, .ref 10), (1, .int (nI w)), (2, .int (nI d)), (3, .int (nI 1))]) rfl ?_
  refine cv_pick [0, 1, 2, 3, 4, 5] (lv' := [(5, .int (nI 0)), (4, .int (nI (cv_cnt (fun i => decide (i &&& (L 6 1 ^^^ 4294967295) = 0) && cv_by (cv_dw f (L 6 0) d i (L 6 2)) w) 0))), (0, .ref 10), (1, .int (nI w)), (2, .int (nI d)), (3, .int (nI 1))]) rfl ?_
  have LP6 : ∀ (r : Nat) (i : Nat), (i + r = 256) → cv_At X (26, cv_shC, 0, 0, a) 9 σ 6 [(5, .int (nI i)), (4, .int (nI (cv_cnt (fun i => decide (i &&& (L 6 1 ^^^ 4294967295) = 0) && cv_by (cv_dw f (L 6 0) d i (L 6 2)) w) i))), (0, .ref 10), (1, .int (nI w)), (2, .int (nI d)), (3, .int (nI 1))] [] := by
    intro r
    induction r with
    | zero =>
      intro i hr
      obtain rfl : i = 256 := by omega
      refine cv_iload C (pc' := 8) rfl (D 4 (6, .iload 5, 2) rfl) (j := 0) rfl ?_
      refine cv_sipush C (pc' := 11) rfl (D 5 (8, .sipush 255, 3) rfl) (v := nI 255) (by decide) ?_
      refine cv_icmp_gt C (pc' := 14) rfl (tgt := 98) (D 6 (11, .if_icmp .gt 87, 3) rfl) (by decide) (fun _ => ?_) (fun h => absurd h (by decide))
      refine cv_iload C (pc' := 100) rfl (D 52 (98, .iload 4, 2) rfl) (j := 1) rfl ?_
      exact cv_iret C Rt rfl (D 53 (100, .ireturn, 1) rfl) ⟨rfl, rfl⟩
    | succ r ih6 =>
      intro i hr
      have hxb : i &&& (L 6 1 ^^^ 4294967295) ≤ i := Nat.and_le_left
      refine cv_iload C (pc' := 8) rfl (D 4 (6, .iload 5, 2) rfl) (j := 0) rfl ?_
      refine cv_sipush C (pc' := 11) rfl (D 5 (8, .sipush 255, 3) rfl) (v := nI 255) (by decide) ?_
      refine cv_icmp_gtN C (pc' := 14) rfl (by omega) (by omega) (tgt := 98) (D 6 (11, .if_icmp .gt 87, 3) rfl) (by decide) (fun b11 => ?_) (fun b11 => ?_)
      · skip
        omega
      · skip
        refine cv_iload C (pc' := 16) rfl (D 7 (14, .iload 5, 2) rfl) (j := 0) rfl ?_
        refine cv_aload_n C (pc' := 17) rfl (D 8 (16, .aload_n 0, 1) rfl) rfl (j := 2) rfl ?_
        refine cv_get C (pc' := 20) rfl (k0 := 10) (i := 2) (ci := 0) (by decide) rfl rfl (by decide) (o := some 19) rfl iw_X0 wfX0_21 (D 9 (17, .getfield 21, 3) rfl) rfl ?_
        refine cv_iload_n C (pc' := 21) rfl (D 10 (20, .iload_n 3, 1) rfl) rfl (j := 5) rfl ?_
        refine cv_iald C (pc' := 22) rfl (k0 := 19) (j := 1) (by decide) rfl rfl (by omega) (by decide) (D 11 (21, .iaload, 1) rfl) (v := nI (L 6 1)) (hL.2.2.1 _ (by omega)) ?_
        refine cv_iconst C (pc' := 23) rfl (D 12 (22, .iconst (-1), 1) rfl) (v := -1) (by decide) ?_
        refine cv_ixor C (pc' := 24) rfl (D 13 (23, .ixor, 1) rfl) ?_
        refine cv_top (w := nI ((L 6 1) ^^^ 4294967295)) (cv_xm1 _) ?_
        refine cv_iandN C (pc' := 25) rfl (D 14 (24, .iand, 1) rfl) ?_
        refine cv_if_neN C (pc' := 28) rfl (by omega) (tgt := 32) (D 15 (25, .ifCond .ne 7, 3) rfl) (by decide) (fun b25 => ?_) (fun b25 => ?_)
        · skip
          refine cv_iconst C (pc' := 33) rfl (D 18 (32, .iconst 0, 1) rfl) (v := nI 0) (by decide) ?_
          refine cv_istore C (pc' := 35) rfl (D 19 (33, .istore 6, 2) rfl) (by decide) (lv' := [(6, .int (nI 0)), (5, .int (nI i)), (4, .int (nI (cv_cnt (fun i => decide (i &&& (L 6 1 ^^^ 4294967295) = 0) && cv_by (cv_dw f (L 6 0) d i (L 6 2)) w) i))), (0, .ref 10), (1, .int (nI w)), (2, .int (nI d)), (3, .int (nI 1))]) rfl ?_
          refine cv_iload_n C (pc' := 36) rfl (D 20 (35, .iload_n 3, 1) rfl) rfl (j := 6) rfl ?_
          refine cv_iconst C (pc' := 37) rfl (D 21 (36, .iconst 1, 1) rfl) (v := nI 1) (by decide) ?_
          refine cv_icmp_ne C (pc' := 40) rfl (tgt := 45) (D 22 (37, .if_icmp .ne 8, 3) rfl) (by decide) (fun h => absurd h (by decide)) (fun _ => ?_)
          refine cv_iload C (pc' := 42) rfl (D 23 (40, .iload 5, 2) rfl) (j := 1) rfl ?_
          refine cv_goto C (tgt := 51) (D 24 (42, .goto 9, 3) rfl) (by decide) ?_
          refine cv_istore C (pc' := 53) rfl (D 29 (51, .istore 7, 2) rfl) (by decide) (lv' := [(7, .int (nI i)), (6, .int (nI 0)), (5, .int (nI i)), (4, .int (nI (cv_cnt (fun i => decide (i &&& (L 6 1 ^^^ 4294967295) = 0) && cv_by (cv_dw f (L 6 0) d i (L 6 2)) w) i))), (0, .ref 10), (1, .int (nI w)), (2, .int (nI d)), (3, .int (nI 1))]) rfl ?_
          refine cv_iload_n C (pc' := 54) rfl (D 30 (53, .iload_n 3, 1) rfl) rfl (j := 7) rfl ?_
          refine cv_iconst C (pc' := 55) rfl (D 31 (54, .iconst 2, 1) rfl) (v := nI 2) (by decide) ?_
          refine cv_icmp_ne C (pc' := 58) rfl (tgt := 63) (D 32 (55, .if_icmp .ne 8, 3) rfl) (by decide) (fun _ => ?_) (fun h => absurd h (by decide))
          refine cv_aload_n C (pc' := 64) rfl (D 35 (63, .aload_n 0, 1) rfl) rfl (j := 4) rfl ?_
          refine cv_get C (pc' := 67) rfl (k0 := 10) (i := 2) (ci := 0) (by decide) rfl rfl (by decide) (o := some 19) rfl iw_X0 wfX0_21 (D 36 (64, .getfield 21, 3) rfl) rfl ?_
          refine cv_iconst C (pc' := 68) rfl (D 37 (67, .iconst 2, 1) rfl) (v := nI 2) (by decide) ?_
          refine cv_iald C (pc' := 69) rfl (k0 := 19) (j := 2) (by decide) rfl rfl (by omega) (by decide) (D 38 (68, .iaload, 1) rfl) (v := nI (L 6 2)) (hL.2.2.1 _ (by omega)) ?_
          refine cv_istore C (pc' := 71) rfl (D 39 (69, .istore 8, 2) rfl) (by decide) (lv' := [(8, .int (nI (L 6 2))), (7, .int (nI i)), (6, .int (nI 0)), (5, .int (nI i)), (4, .int (nI (cv_cnt (fun i => decide (i &&& (L 6 1 ^^^ 4294967295) = 0) && cv_by (cv_dw f (L 6 0) d i (L 6 2)) w) i))), (0, .ref 10), (1, .int (nI w)), (2, .int (nI d)), (3, .int (nI 1))]) rfl ?_
          refine cv_iload C (pc' := 73) rfl (D 40 (71, .iload 6, 2) rfl) (j := 2) rfl ?_
          refine cv_if_eq C (pc' := 76) rfl (tgt := 92) (D 41 (73, .ifCond .eq 19, 3) rfl) (by decide) (fun _ => ?_) (fun h => absurd h (by decide))
          refine cv_iincN C (pc' := 95) rfl (D 50 (92, .iinc 5 1, 3) rfl) (j := 3) rfl (by decide) (lv' := [(5, .int (nI (i + 1))), (8, .int (nI (L 6 2))), (7, .int (nI i)), (6, .int (nI 0)), (4, .int (nI (cv_cnt (fun i => decide (i &&& (L 6 1 ^^^ 4294967295) = 0) && cv_by (cv_dw f (L 6 0) d i (L 6 2)) w) i))), (0, .ref 10), (1, .int (nI w)), (2, .int (nI d)), (3, .int (nI 1))]) rfl ?_
          refine cv_goto C (tgt := 6) (D 51 (95, .goto (-89), 3) rfl) (by decide) ?_
          have hw9 : cv_cnt (fun i => decide (i &&& (L 6 1 ^^^ 4294967295) = 0) && cv_by (cv_dw f (L 6 0) d i (L 6 2)) w) i = cv_cnt (fun i => decide (i &&& (L 6 1 ^^^ 4294967295) = 0) && cv_by (cv_dw f (L 6 0) d i (L 6 2)) w) (i + 1) := by simp [cv_cnt]; intro h; omega
          rw [hw9]
          refine cv_pick [0, 4, 5, 6, 7, 8] (lv' := [(5, .int (nI (i + 1))), (4, .int (nI (cv_cnt (fun i => decide (i &&& (L 6 1 ^^^ 4294967295) = 0) && cv_by (cv_dw f (L 6 0) d i (L 6 2)) w) (i + 1)))), (0, .ref 10), (1, .int (nI w)), (2, .int (nI d)), (3, .int (nI 1))]) rfl ?_
          exact ih6 (i + 1) (by omega)
        · skip
          refine cv_iconst C (pc' := 29) rfl (D 16 (28, .iconst 1, 1) rfl) (v := nI 1) (by decide) ?_
          refine cv_goto C (tgt := 33) (D 17 (29, .goto 4, 3) rfl) (by decide) ?_
          refine cv_istore C (pc' := 35) rfl (D 19 (33, .istore 6, 2) rfl) (by decide) (lv' := [(6, .int (nI 1)), (5, .int (nI i)), (4, .int (nI (cv_cnt (fun i => decide (i &&& (L 6 1 ^^^ 4294967295) = 0) && cv_by (cv_dw f (L 6 0) d i (L 6 2)) w) i))), (0, .ref 10), (1, .int (nI w)), (2, .int (nI d)), (3, .int (nI 1))]) rfl ?_
          refine cv_iload_n C (pc' := 36) rfl (D 20 (35, .iload_n 3, 1) rfl) rfl (j := 6) rfl ?_
          refine cv_iconst C (pc' := 37) rfl (D 21 (36, .iconst 1, 1) rfl) (v := nI 1) (by decide) ?_
          refine cv_icmp_ne C (pc' := 40) rfl (tgt := 45) (D 22 (37, .if_icmp .ne 8, 3) rfl) (by decide) (fun h => absurd h (by decide)) (fun _ => ?_)
          refine cv_iload C (pc' := 42) rfl (D 23 (40, .iload 5, 2) rfl) (j := 1) rfl ?_
          refine cv_goto C (tgt := 51) (D 24 (42, .goto 9, 3) rfl) (by decide) ?_
          refine cv_istore C (pc' := 53) rfl (D 29 (51, .istore 7, 2) rfl) (by decide) (lv' := [(7, .int (nI i)), (6, .int (nI 1)), (5, .int (nI i)), (4, .int (nI (cv_cnt (fun i => decide (i &&& (L 6 1 ^^^ 4294967295) = 0) && cv_by (cv_dw f (L 6 0) d i (L 6 2)) w) i))), (0, .ref 10), (1, .int (nI w)), (2, .int (nI d)), (3, .int (nI 1))]) rfl ?_
          refine cv_iload_n C (pc' := 54) rfl (D 30 (53, .iload_n 3, 1) rfl) rfl (j := 7) rfl ?_
          refine cv_iconst C (pc' := 55) rfl (D 31 (54, .iconst 2, 1) rfl) (v := nI 2) (by decide) ?_
          refine cv_icmp_ne C (pc' := 58) rfl (tgt := 63) (D 32 (55, .if_icmp .ne 8, 3) rfl) (by decide) (fun _ => ?_) (fun h => absurd h (by decide))
          refine cv_aload_n C (pc' := 64) rfl (D 35 (63, .aload_n 0, 1) rfl) rfl (j := 4) rfl ?_
          refine cv_get C (pc' := 67) rfl (k0 := 10) (i := 2) (ci := 0) (by decide) rfl rfl (by decide) (o := some 19) rfl iw_X0 wfX0_21 (D 36 (64, .getfield 21, 3) rfl) rfl ?_
          refine cv_iconst C (pc' := 68) rfl (D 37 (67, .iconst 2, 1) rfl) (v := nI 2) (by decide) ?_
          refine cv_iald C (pc' := 69) rfl (k0 := 19) (j := 2) (by decide) rfl rfl (by omega) (by decide) (D 38 (68, .iaload, 1) rfl) (v := nI (L 6 2)) (hL.2.2.1 _ (by omega)) ?_
          refine cv_istore C (pc' := 71) rfl (D 39 (69, .istore 8, 2) rfl) (by decide) (lv' := [(8, .int (nI (L 6 2))), (7, .int (nI i)), (6, .int (nI 1)), (5, .int (nI i)), (4, .int (nI (cv_cnt (fun i => decide (i &&& (L 6 1 ^^^ 4294967295) = 0) && cv_by (cv_dw f (L 6 0) d i (L 6 2)) w) i))), (0, .ref 10), (1, .int (nI w)), (2, .int (nI d)), (3, .int (nI 1))]) rfl ?_
          refine cv_iload C (pc' := 73) rfl (D 40 (71, .iload 6, 2) rfl) (j := 2) rfl ?_
          refine cv_if_eq C (pc' := 76) rfl (tgt := 92) (D 41 (73, .ifCond .eq 19, 3) rfl) (by decide) (fun h => absurd h (by decide)) (fun _ => ?_)
          refine cv_aload_n C (pc' := 77) rfl (D 42 (76, .aload_n 0, 1) rfl) rfl (j := 5) rfl ?_
          refine cv_iload_n C (pc' := 78) rfl (D 43 (77, .iload_n 1, 1) rfl) rfl (j := 6) rfl ?_
          refine cv_iload_n C (pc' := 79) rfl (D 44 (78, .iload_n 2, 1) rfl) rfl (j := 7) rfl ?_
          refine cv_iload C (pc' := 81) rfl (D 45 (79, .iload 7, 2) rfl) (j := 1) rfl ?_
          refine cv_iload C (pc' := 83) rfl (D 46 (81, .iload 8, 2) rfl) (j := 0) rfl ?_
          refine cv_callV C (pc' := 86) rfl (k0 := 10) (ci := 0) (As := [.int (nI w), .int (nI d), .int (nI i), .int (nI (L 6 2))]) (rest := []) (idx := 107) (np := 4) (kX0_isDoneBy L f w d i (L 6 2) σ hL hB hT (by omega) (by omega) (by omega) (by omega)) (by decide) rfl rfl rfl (by decide +kernel) rfl wmX0_107 wi_yX0_isDoneBy ws_yX0_isDoneBy wn_X0 wc_yX0_isDoneBy (by decide) (by decide) (D 47 (83, .invokevirtual 107, 3) rfl) (Nat.le_of_ble_eq_true rfl) rfl (fun w9 u9 h9 => ?_)
          rw [h9.1, h9.2]
          show cv_At X _ _ σ 86 _ [.int (cv_b (cv_by (cv_dw f (L 6 0) d i (L 6 2)) w))]
          refine cv_if_eqB C (pc' := 89) rfl (tgt := 92) (D 48 (86, .ifCond .eq 6, 3) rfl) (by decide) (fun b86 => ?_) (fun b86 => ?_)
          · skip
            refine cv_iincN C (pc' := 95) rfl (D 50 (92, .iinc 5 1, 3) rfl) (j := 3) rfl (by decide) (lv' := [(5, .int (nI (i + 1))), (8, .int (nI (L 6 2))), (7, .int (nI i)), (6, .int (nI 1)), (4, .int (nI (cv_cnt (fun i => decide (i &&& (L 6 1 ^^^ 4294967295) = 0) && cv_by (cv_dw f (L 6 0) d i (L 6 2)) w) i))), (0, .ref 10), (1, .int (nI w)), (2, .int (nI d)), (3, .int (nI 1))]) rfl ?_
            refine cv_goto C (tgt := 6) (D 51 (95, .goto (-89), 3) rfl) (by decide) ?_
            have hw9 : cv_cnt (fun i => decide (i &&& (L 6 1 ^^^ 4294967295) = 0) && cv_by (cv_dw f (L 6 0) d i (L 6 2)) w) i = cv_cnt (fun i => decide (i &&& (L 6 1 ^^^ 4294967295) = 0) && cv_by (cv_dw f (L 6 0) d i (L 6 2)) w) (i + 1) := by simp [cv_cnt, b25, b86]
            rw [hw9]
            refine cv_pick [0, 4, 5, 6, 7, 8] (lv' := [(5, .int (nI (i + 1))), (4, .int (nI (cv_cnt (fun i => decide (i &&& (L 6 1 ^^^ 4294967295) = 0) && cv_by (cv_dw f (L 6 0) d i (L 6 2)) w) (i + 1)))), (0, .ref 10), (1, .int (nI w)), (2, .int (nI d)), (3, .int (nI 1))]) rfl ?_
            exact ih6 (i + 1) (by omega)
          · skip
            refine cv_iincN C (pc' := 92) rfl (D 49 (89, .iinc 4 1, 3) rfl) (j := 4) rfl (by decide) (lv' := [(4, .int (nI ((cv_cnt (fun i => decide (i &&& (L 6 1 ^^^ 4294967295) = 0) && cv_by (cv_dw f (L 6 0) d i (L 6 2)) w) i) + 1))), (8, .int (nI (L 6 2))), (7, .int (nI i)), (6, .int (nI 1)), (5, .int (nI i)), (0, .ref 10), (1, .int (nI w)), (2, .int (nI d)), (3, .int (nI 1))]) rfl ?_
            refine cv_iincN C (pc' := 95) rfl (D 50 (92, .iinc 5 1, 3) rfl) (j := 4) rfl (by decide) (lv' := [(5, .int (nI (i + 1))), (4, .int (nI ((cv_cnt (fun i => decide (i &&& (L 6 1 ^^^ 4294967295) = 0) && cv_by (cv_dw f (L 6 0) d i (L 6 2)) w) i) + 1))), (8, .int (nI (L 6 2))), (7, .int (nI i)), (6, .int (nI 1)), (0, .ref 10), (1, .int (nI w)), (2, .int (nI d)), (3, .int (nI 1))]) rfl ?_
            refine cv_goto C (tgt := 6) (D 51 (95, .goto (-89), 3) rfl) (by decide) ?_
            have hw9 : (cv_cnt (fun i => decide (i &&& (L 6 1 ^^^ 4294967295) = 0) && cv_by (cv_dw f (L 6 0) d i (L 6 2)) w) i) + 1 = cv_cnt (fun i => decide (i &&& (L 6 1 ^^^ 4294967295) = 0) && cv_by (cv_dw f (L 6 0) d i (L 6 2)) w) (i + 1) := by simp [cv_cnt, b25, b86]
            rw [hw9]
            refine cv_pick [0, 1, 5, 6, 7, 8] (lv' := [(5, .int (nI (i + 1))), (4, .int (nI (cv_cnt (fun i => decide (i &&& (L 6 1 ^^^ 4294967295) = 0) && cv_by (cv_dw f (L 6 0) d i (L 6 2)) w) (i + 1)))), (0, .ref 10), (1, .int (nI w)), (2, .int (nI d)), (3, .int (nI 1))]) rfl ?_
            exact ih6 (i + 1) (by omega)
  exact LP6 256 0 (by decide)

set_option maxHeartbeats 4000000 in
set_option maxRecDepth 100000 in
theorem kX0_setsDoneBy2 (L : cv_L) (f : Nat → Nat) (w d : Nat) (σ : cv_St) (hL : cv_LC L σ) (hB : cv_LB L) (hT : cv_TC f σ) (hw : w < 8) (hd : d < 8) : cv_Ct yX0_setsDoneBy cX0_setsDoneBy 9 (some .int) 4 0 0 26 cv_shC [.ref 10, .int (nI w), .int (nI d), .int (nI 2)] σ (cv_pu (.int (nI (cv_cnt (fun i => decide (i &&& (L 6 2 ^^^ 4294967295) = 0) && cv_by (cv_dw f (L 6 0) d (L 6 1) i) w) 256))) σ) := by
  refine cv_enter (own := RX0) (by decide) rfl (Nat.le_of_ble_eq_true rfl) ?_
  intro X a C Rt hRm
  have D := @cv_dec _ _ dkX0_setsDoneBy
  have hg1 := hB.2.2.2 1 (by decide)
  have hg2 := hB.2.2.2 2 (by decide)
  show cv_At X _ _ σ 0 [(0, .ref 10), (1, .int (nI w)), (2, .int (nI d)), (3, .int (nI 2))] []
  refine cv_iconst C (pc' := 1) rfl (D 0 (0, .iconst 0, 1) rfl) (v := nI 0) (by decide) ?_
  refine cv_istore C (pc' := 3) rfl (D 1 (1, .istore 4, 2) rfl) (by decide) (lv' := [(4, .int (nI 0)), (0, .ref 10), (1, .int (nI w)), (2, .int (nI d)), (3, .int (nI 2))]) rfl ?_
  refine cv_iconst C (pc' := 4) rfl (D 2 (3, .iconst 0, 1) rfl) (v := nI 0) (by decide) ?_
  refine cv_istore C (pc' := 6) rfl (D 3 (4, .istore 5, 2) rfl) (by decide) (lv' := [(5, .int (nI 0)), (4, .int (nI 0)), (0, .ref 10), (1, .int (nI w)), (2, .int (nI d)), (3, .int (nI 2))]) rfl ?_
  refine cv_pick [0, 1, 2, 3, 4, 5] (lv' := [(5, .int (nI 0)), (4, .int (nI (cv_cnt (fun i => decide (i &&& (L 6 2 ^^^ 4294967295) = 0) && cv_by (cv_dw f (L 6 0) d (L 6 1) i) w) 0))), (0, .ref 10), (1, .int (nI w)), (2, .int (nI d)), (3, .int (nI 2))]) rfl ?_
  have LP6 : ∀ (r : Nat) (i : Nat), (i + r = 256) → cv_At X (26, cv_shC, 0, 0, a) 9 σ 6 [(5, .int (nI i)), (4, .int (nI (cv_cnt (fun i => decide (i &&& (L 6 2 ^^^ 4294967295) = 0) && cv_by (cv_dw f (L 6 0) d (L 6 1) i) w) i))), (0, .ref 10), (1, .int (nI w)), (2, .int (nI d)), (3, .int (nI 2))] [] := by
    intro r
    induction r with
    | zero =>
      intro i hr
      obtain rfl : i = 256 := by omega
      refine cv_iload C (pc' := 8) rfl (D 4 (6, .iload 5, 2) rfl) (j := 0) rfl ?_
      refine cv_sipush C (pc' := 11) rfl (D 5 (8, .sipush 255, 3) rfl) (v := nI 255) (by decide) ?_
      refine cv_icmp_gt C (pc' := 14) rfl (tgt := 98) (D 6 (11, .if_icmp .gt 87, 3) rfl) (by decide) (fun _ => ?_) (fun h => absurd h (by decide))
      refine cv_iload C (pc' := 100) rfl (D 52 (98, .iload 4, 2) rfl) (j := 1) rfl ?_
      exact cv_iret C Rt rfl (D 53 (100, .ireturn, 1) rfl) ⟨rfl, rfl⟩
    | succ r ih6 =>
      intro i hr
      have hxb : i &&& (L 6 2 ^^^ 4294967295) ≤ i := Nat.and_le_left
      refine cv_iload C (pc' := 8) rfl (D 4 (6, .iload 5, 2) rfl) (j := 0) rfl ?_
      refine cv_sipush C (pc' := 11) rfl (D 5 (8, .sipush 255, 3) rfl) (v := nI 255) (by decide) ?_
      refine cv_icmp_gtN C (pc' := 14) rfl (by omega) (by omega) (tgt := 98) (D 6 (11, .if_icmp .gt 87, 3) rfl) (by decide) (fun b11 => ?_) (fun b11 => ?_)
      · skip
        omega
      · skip
        refine cv_iload C (pc' := 16) rfl (D 7 (14, .iload 5, 2) rfl) (j := 0) rfl ?_
        refine cv_aload_n C (pc' := 17) rfl (D 8 (16, .aload_n 0, 1) rfl) rfl (j := 2) rfl ?_
        refine cv_get C (pc' := 20) rfl (k0 := 10) (i := 2) (ci := 0) (by decide) rfl rfl (by decide) (o := some 19) rfl iw_X0 wfX0_21 (D 9 (17, .getfield 21, 3) rfl) rfl ?_
        refine cv_iload_n C (pc' := 21) rfl (D 10 (20, .iload_n 3, 1) rfl) rfl (j := 5) rfl ?_
        refine cv_iald C (pc' := 22) rfl (k0 := 19) (j := 2) (by decide) rfl rfl (by omega) (by decide) (D 11 (21, .iaload, 1) rfl) (v := nI (L 6 2)) (hL.2.2.1 _ (by omega)) ?_
        refine cv_iconst C (pc' := 23) rfl (D 12 (22, .iconst (-1), 1) rfl) (v := -1) (by decide) ?_
        refine cv_ixor C (pc' := 24) rfl (D 13 (23, .ixor, 1) rfl) ?_
        refine cv_top (w := nI ((L 6 2) ^^^ 4294967295)) (cv_xm1 _) ?_
        refine cv_iandN C (pc' := 25) rfl (D 14 (24, .iand, 1) rfl) ?_
        refine cv_if_neN C (pc' := 28) rfl (by omega) (tgt := 32) (D 15 (25, .ifCond .ne 7, 3) rfl) (by decide) (fun b25 => ?_) (fun b25 => ?_)
        · skip
          refine cv_iconst C (pc' := 33) rfl (D 18 (32, .iconst 0, 1) rfl) (v := nI 0) (by decide) ?_
          refine cv_istore C (pc' := 35) rfl (D 19 (33, .istore 6, 2) rfl) (by decide) (lv' := [(6, .int (nI 0)), (5, .int (nI i)), (4, .int (nI (cv_cnt (fun i => decide (i &&& (L 6 2 ^^^ 4294967295) = 0) && cv_by (cv_dw f (L 6 0) d (L 6 1) i) w) i))), (0, .ref 10), (1, .int (nI w)), (2, .int (nI d)), (3, .int (nI 2))]) rfl ?_
          refine cv_iload_n C (pc' := 36) rfl (D 20 (35, .iload_n 3, 1) rfl) rfl (j := 6) rfl ?_
          refine cv_iconst C (pc' := 37) rfl (D 21 (36, .iconst 1, 1) rfl) (v := nI 1) (by decide) ?_
          refine cv_icmp_ne C (pc' := 40) rfl (tgt := 45) (D 22 (37, .if_icmp .ne 8, 3) rfl) (by decide) (fun _ => ?_) (fun h => absurd h (by decide))
          refine cv_aload_n C (pc' := 46) rfl (D 25 (45, .aload_n 0, 1) rfl) rfl (j := 3) rfl ?_
          refine cv_get C (pc' := 49) rfl (k0 := 10) (i := 2) (ci := 0) (by decide) rfl rfl (by decide) (o := some 19) rfl iw_X0 wfX0_21 (D 26 (46, .getfield 21, 3) rfl) rfl ?_
          refine cv_iconst C (pc' := 50) rfl (D 27 (49, .iconst 1, 1) rfl) (v := nI 1) (by decide) ?_
          refine cv_iald C (pc' := 51) rfl (k0 := 19) (j := 1) (by decide) rfl rfl (by omega) (by decide) (D 28 (50, .iaload, 1) rfl) (v := nI (L 6 1)) (hL.2.2.1 _ (by omega)) ?_
          refine cv_istore C (pc' := 53) rfl (D 29 (51, .istore 7, 2) rfl) (by decide) (lv' := [(7, .int (nI (L 6 1))), (6, .int (nI 0)), (5, .int (nI i)), (4, .int (nI (cv_cnt (fun i => decide (i &&& (L 6 2 ^^^ 4294967295) = 0) && cv_by (cv_dw f (L 6 0) d (L 6 1) i) w) i))), (0, .ref 10), (1, .int (nI w)), (2, .int (nI d)), (3, .int (nI 2))]) rfl ?_
          refine cv_iload_n C (pc' := 54) rfl (D 30 (53, .iload_n 3, 1) rfl) rfl (j := 7) rfl ?_
          refine cv_iconst C (pc' := 55) rfl (D 31 (54, .iconst 2, 1) rfl) (v := nI 2) (by decide) ?_
          refine cv_icmp_ne C (pc' := 58) rfl (tgt := 63) (D 32 (55, .if_icmp .ne 8, 3) rfl) (by decide) (fun h => absurd h (by decide)) (fun _ => ?_)
          refine cv_iload C (pc' := 60) rfl (D 33 (58, .iload 5, 2) rfl) (j := 2) rfl ?_
          refine cv_goto C (tgt := 69) (D 34 (60, .goto 9, 3) rfl) (by decide) ?_
          refine cv_istore C (pc' := 71) rfl (D 39 (69, .istore 8, 2) rfl) (by decide) (lv' := [(8, .int (nI i)), (7, .int (nI (L 6 1))), (6, .int (nI 0)), (5, .int (nI i)), (4, .int (nI (cv_cnt (fun i => decide (i &&& (L 6 2 ^^^ 4294967295) = 0) && cv_by (cv_dw f (L 6 0) d (L 6 1) i) w) i))), (0, .ref 10), (1, .int (nI w)), (2, .int (nI d)), (3, .int (nI 2))]) rfl ?_
          refine cv_iload C (pc' := 73) rfl (D 40 (71, .iload 6, 2) rfl) (j := 2) rfl ?_
          refine cv_if_eq C (pc' := 76) rfl (tgt := 92) (D 41 (73, .ifCond .eq 19, 3) rfl) (by decide) (fun _ => ?_) (fun h => absurd h (by decide))
          refine cv_iincN C (pc' := 95) rfl (D 50 (92, .iinc 5 1, 3) rfl) (j := 3) rfl (by decide) (lv' := [(5, .int (nI (i + 1))), (8, .int (nI i)), (7, .int (nI (L 6 1))), (6, .int (nI 0)), (4, .int (nI (cv_cnt (fun i => decide (i &&& (L 6 2 ^^^ 4294967295) = 0) && cv_by (cv_dw f (L 6 0) d (L 6 1) i) w) i))), (0, .ref 10), (1, .int (nI w)), (2, .int (nI d)), (3, .int (nI 2))]) rfl ?_
          refine cv_goto C (tgt := 6) (D 51 (95, .goto (-89), 3) rfl) (by decide) ?_
          have hw9 : cv_cnt (fun i => decide (i &&& (L 6 2 ^^^ 4294967295) = 0) && cv_by (cv_dw f (L 6 0) d (L 6 1) i) w) i = cv_cnt (fun i => decide (i &&& (L 6 2 ^^^ 4294967295) = 0) && cv_by (cv_dw f (L 6 0) d (L 6 1) i) w) (i + 1) := by simp [cv_cnt]; intro h; omega
          rw [hw9]
          refine cv_pick [0, 4, 5, 6, 7, 8] (lv' := [(5, .int (nI (i + 1))), (4, .int (nI (cv_cnt (fun i => decide (i &&& (L 6 2 ^^^ 4294967295) = 0) && cv_by (cv_dw f (L 6 0) d (L 6 1) i) w) (i + 1)))), (0, .ref 10), (1, .int (nI w)), (2, .int (nI d)), (3, .int (nI 2))]) rfl ?_
          exact ih6 (i + 1) (by omega)
        · skip
          refine cv_iconst C (pc' := 29) rfl (D 16 (28, .iconst 1, 1) rfl) (v := nI 1) (by decide) ?_
          refine cv_goto C (tgt := 33) (D 17 (29, .goto 4, 3) rfl) (by decide) ?_
          refine cv_istore C (pc' := 35) rfl (D 19 (33, .istore 6, 2) rfl) (by decide) (lv' := [(6, .int (nI 1)), (5, .int (nI i)), (4, .int (nI (cv_cnt (fun i => decide (i &&& (L 6 2 ^^^ 4294967295) = 0) && cv_by (cv_dw f (L 6 0) d (L 6 1) i) w) i))), (0, .ref 10), (1, .int (nI w)), (2, .int (nI d)), (3, .int (nI 2))]) rfl ?_
          refine cv_iload_n C (pc' := 36) rfl (D 20 (35, .iload_n 3, 1) rfl) rfl (j := 6) rfl ?_
          refine cv_iconst C (pc' := 37) rfl (D 21 (36, .iconst 1, 1) rfl) (v := nI 1) (by decide) ?_
          refine cv_icmp_ne C (pc' := 40) rfl (tgt := 45) (D 22 (37, .if_icmp .ne 8, 3) rfl) (by decide) (fun _ => ?_) (fun h => absurd h (by decide))
          refine cv_aload_n C (pc' := 46) rfl (D 25 (45, .aload_n 0, 1) rfl) rfl (j := 3) rfl ?_
          refine cv_get C (pc' := 49) rfl (k0 := 10) (i := 2) (ci := 0) (by decide) rfl rfl (by decide) (o := some 19) rfl iw_X0 wfX0_21 (D 26 (46, .getfield 21, 3) rfl) rfl ?_
          refine cv_iconst C (pc' := 50) rfl (D 27 (49, .iconst 1, 1) rfl) (v := nI 1) (by decide) ?_
          refine cv_iald C (pc' := 51) rfl (k0 := 19) (j := 1) (by decide) rfl rfl (by omega) (by decide) (D 28 (50, .iaload, 1) rfl) (v := nI (L 6 1)) (hL.2.2.1 _ (by omega)) ?_
          refine cv_istore C (pc' := 53) rfl (D 29 (51, .istore 7, 2) rfl) (by decide) (lv' := [(7, .int (nI (L 6 1))), (6, .int (nI 1)), (5, .int (nI i)), (4, .int (nI (cv_cnt (fun i => decide (i &&& (L 6 2 ^^^ 4294967295) = 0) && cv_by (cv_dw f (L 6 0) d (L 6 1) i) w) i))), (0, .ref 10), (1, .int (nI w)), (2, .int (nI d)), (3, .int (nI 2))]) rfl ?_
          refine cv_iload_n C (pc' := 54) rfl (D 30 (53, .iload_n 3, 1) rfl) rfl (j := 7) rfl ?_
          refine cv_iconst C (pc' := 55) rfl (D 31 (54, .iconst 2, 1) rfl) (v := nI 2) (by decide) ?_
          refine cv_icmp_ne C (pc' := 58) rfl (tgt := 63) (D 32 (55, .if_icmp .ne 8, 3) rfl) (by decide) (fun h => absurd h (by decide)) (fun _ => ?_)
          refine cv_iload C (pc' := 60) rfl (D 33 (58, .iload 5, 2) rfl) (j := 2) rfl ?_
          refine cv_goto C (tgt := 69) (D 34 (60, .goto 9, 3) rfl) (by decide) ?_
          refine cv_istore C (pc' := 71) rfl (D 39 (69, .istore 8, 2) rfl) (by decide) (lv' := [(8, .int (nI i)), (7, .int (nI (L 6 1))), (6, .int (nI 1)), (5, .int (nI i)), (4, .int (nI (cv_cnt (fun i => decide (i &&& (L 6 2 ^^^ 4294967295) = 0) && cv_by (cv_dw f (L 6 0) d (L 6 1) i) w) i))), (0, .ref 10), (1, .int (nI w)), (2, .int (nI d)), (3, .int (nI 2))]) rfl ?_
          refine cv_iload C (pc' := 73) rfl (D 40 (71, .iload 6, 2) rfl) (j := 2) rfl ?_
          refine cv_if_eq C (pc' := 76) rfl (tgt := 92) (D 41 (73, .ifCond .eq 19, 3) rfl) (by decide) (fun h => absurd h (by decide)) (fun _ => ?_)
          refine cv_aload_n C (pc' := 77) rfl (D 42 (76, .aload_n 0, 1) rfl) rfl (j := 5) rfl ?_
          refine cv_iload_n C (pc' := 78) rfl (D 43 (77, .iload_n 1, 1) rfl) rfl (j := 6) rfl ?_
          refine cv_iload_n C (pc' := 79) rfl (D 44 (78, .iload_n 2, 1) rfl) rfl (j := 7) rfl ?_
          refine cv_iload C (pc' := 81) rfl (D 45 (79, .iload 7, 2) rfl) (j := 1) rfl ?_
          refine cv_iload C (pc' := 83) rfl (D 46 (81, .iload 8, 2) rfl) (j := 0) rfl ?_
          refine cv_callV C (pc' := 86) rfl (k0 := 10) (ci := 0) (As := [.int (nI w), .int (nI d), .int (nI (L 6 1)), .int (nI i)]) (rest := []) (idx := 107) (np := 4) (kX0_isDoneBy L f w d (L 6 1) i σ hL hB hT (by omega) (by omega) (by omega) (by omega)) (by decide) rfl rfl rfl (by decide +kernel) rfl wmX0_107 wi_yX0_isDoneBy ws_yX0_isDoneBy wn_X0 wc_yX0_isDoneBy (by decide) (by decide) (D 47 (83, .invokevirtual 107, 3) rfl) (Nat.le_of_ble_eq_true rfl) rfl (fun w9 u9 h9 => ?_)
          rw [h9.1, h9.2]
          show cv_At X _ _ σ 86 _ [.int (cv_b (cv_by (cv_dw f (L 6 0) d (L 6 1) i) w))]
          refine cv_if_eqB C (pc' := 89) rfl (tgt := 92) (D 48 (86, .ifCond .eq 6, 3) rfl) (by decide) (fun b86 => ?_) (fun b86 => ?_)
          · skip
            refine cv_iincN C (pc' := 95) rfl (D 50 (92, .iinc 5 1, 3) rfl) (j := 3) rfl (by decide) (lv' := [(5, .int (nI (i + 1))), (8, .int (nI i)), (7, .int (nI (L 6 1))), (6, .int (nI 1)), (4, .int (nI (cv_cnt (fun i => decide (i &&& (L 6 2 ^^^ 4294967295) = 0) && cv_by (cv_dw f (L 6 0) d (L 6 1) i) w) i))), (0, .ref 10), (1, .int (nI w)), (2, .int (nI d)), (3, .int (nI 2))]) rfl ?_
            refine cv_goto C (tgt := 6) (D 51 (95, .goto (-89), 3) rfl) (by decide) ?_
            have hw9 : cv_cnt (fun i => decide (i &&& (L 6 2 ^^^ 4294967295) = 0) && cv_by (cv_dw f (L 6 0) d (L 6 1) i) w) i = cv_cnt (fun i => decide (i &&& (L 6 2 ^^^ 4294967295) = 0) && cv_by (cv_dw f (L 6 0) d (L 6 1) i) w) (i + 1) := by simp [cv_cnt, b25, b86]
            rw [hw9]
            refine cv_pick [0, 4, 5, 6, 7, 8] (lv' := [(5, .int (nI (i + 1))), (4, .int (nI (cv_cnt (fun i => decide (i &&& (L 6 2 ^^^ 4294967295) = 0) && cv_by (cv_dw f (L 6 0) d (L 6 1) i) w) (i + 1)))), (0, .ref 10), (1, .int (nI w)), (2, .int (nI d)), (3, .int (nI 2))]) rfl ?_
            exact ih6 (i + 1) (by omega)
          · skip
            refine cv_iincN C (pc' := 92) rfl (D 49 (89, .iinc 4 1, 3) rfl) (j := 4) rfl (by decide) (lv' := [(4, .int (nI ((cv_cnt (fun i => decide (i &&& (L 6 2 ^^^ 4294967295) = 0) && cv_by (cv_dw f (L 6 0) d (L 6 1) i) w) i) + 1))), (8, .int (nI i)), (7, .int (nI (L 6 1))), (6, .int (nI 1)), (5, .int (nI i)), (0, .ref 10), (1, .int (nI w)), (2, .int (nI d)), (3, .int (nI 2))]) rfl ?_
            refine cv_iincN C (pc' := 95) rfl (D 50 (92, .iinc 5 1, 3) rfl) (j := 4) rfl (by decide) (lv' := [(5, .int (nI (i + 1))), (4, .int (nI ((cv_cnt (fun i => decide (i &&& (L 6 2 ^^^ 4294967295) = 0) && cv_by (cv_dw f (L 6 0) d (L 6 1) i) w) i) + 1))), (8, .int (nI i)), (7, .int (nI (L 6 1))), (6, .int (nI 1)), (0, .ref 10), (1, .int (nI w)), (2, .int (nI d)), (3, .int (nI 2))]) rfl ?_
            refine cv_goto C (tgt := 6) (D 51 (95, .goto (-89), 3) rfl) (by decide) ?_
            have hw9 : (cv_cnt (fun i => decide (i &&& (L 6 2 ^^^ 4294967295) = 0) && cv_by (cv_dw f (L 6 0) d (L 6 1) i) w) i) + 1 = cv_cnt (fun i => decide (i &&& (L 6 2 ^^^ 4294967295) = 0) && cv_by (cv_dw f (L 6 0) d (L 6 1) i) w) (i + 1) := by simp [cv_cnt, b25, b86]
            rw [hw9]
            refine cv_pick [0, 1, 5, 6, 7, 8] (lv' := [(5, .int (nI (i + 1))), (4, .int (nI (cv_cnt (fun i => decide (i &&& (L 6 2 ^^^ 4294967295) = 0) && cv_by (cv_dw f (L 6 0) d (L 6 1) i) w) (i + 1)))), (0, .ref 10), (1, .int (nI w)), (2, .int (nI d)), (3, .int (nI 2))]) rfl ?_
            exact ih6 (i + 1) (by omega)
  exact LP6 256 0 (by decide)

set_option maxHeartbeats 4000000 in
set_option maxRecDepth 100000 in
theorem kX2_holdIn (L : cv_L) (f : Nat → Nat) (rc : Nat) (rd : Nat → Nat) (rn : Nat → Option Nat) (σ : cv_St) (hL : cv_LC L σ) (hB : cv_LB L) (hT : cv_TC f σ) (hD : cv_DC rc rd rn σ) (hDB : cv_DB rc rd rn) : cv_Ct yX2_holdIn cX2_holdIn 3 (some .boolean) 4 0 0 26 cv_shC [.ref 23, .ref 10] σ (cv_pu (.int (cv_b (cv_ho (fun d => cv_dw f (L 6 0) d (L 6 1) (L 6 2)) rc rd rn))) σ) := by
  refine cv_enter (own := RX2) (by decide) rfl (Nat.le_of_ble_eq_true rfl) ?_
  intro X a C Rt hRm
  have D := @cv_dec _ _ dkX2_holdIn
  have hrc := hDB.1
  show cv_At X _ _ σ 0 [(0, .ref 23), (1, .ref 10)] []
  refine cv_iconst C (pc' := 1) rfl (D 0 (0, .iconst 0, 1) rfl) (v := nI 0) (by decide) ?_
  refine cv_istore_n C (pc' := 2) rfl (D 1 (1, .istore_n 2, 1) rfl) rfl (by decide) (lv' := [(2, .int (nI 0)), (0, .ref 23), (1, .ref 10)]) rfl ?_
  have LP2 : ∀ (r : Nat) (i : Nat), (i + r = rc) → (∀ q, q < i → (fun k => decide (cv_dw f (L 6 0) (rd k) (L 6 1) (L 6 2) = rn k)) q = true) → cv_At X (26, cv_shC, 0, 0, a) 3 σ 2 [(2, .int (nI i)), (0, .ref 23), (1, .ref 10)] [] := by
    intro r
    induction r with
    | zero =>
      intro i hr h0
      refine cv_iload_n C (pc' := 3) rfl (D 2 (2, .iload_n 2, 1) rfl) rfl (j := 0) rfl ?_
      refine cv_aload_n C (pc' := 4) rfl (D 3 (3, .aload_n 0, 1) rfl) rfl (j := 1) rfl ?_
      refine cv_get C (pc' := 7) rfl (k0 := 23) (i := 2) (ci := 2) (by decide) rfl rfl (by decide) (o := none) rfl iw_X2 wfX2_18 (D 4 (4, .getfield 18, 3) rfl) (v := .int (nI rc)) (congrArg Value.int hD.1) ?_
      refine cv_icmp_geN C (pc' := 10) rfl (by omega) (by omega) (tgt := 37) (D 5 (7, .if_icmp .ge 30, 3) rfl) (by decide) (fun b7 => ?_) (fun b7 => ?_)
      · skip
        refine cv_iconst C (pc' := 38) rfl (D 21 (37, .iconst 1, 1) rfl) (v := nI 1) (by decide) ?_
        exact cv_iret C Rt (by decide) (D 22 (38, .ireturn, 1) rfl) ⟨congrArg (fun z => some (Value.int z)) (by unfold cv_ho; rw [cv_al_t (fun k hk => h0 k (by omega))]; rfl), rfl⟩
      · skip
        omega
    | succ r ih2 =>
      intro i hr h0
      have hrd := hDB.2 i (by omega)
      have hrd1 := hrd.1
      refine cv_iload_n C (pc' := 3) rfl (D 2 (2, .iload_n 2, 1) rfl) rfl (j := 0) rfl ?_
      refine cv_aload_n C (pc' := 4) rfl (D 3 (3, .aload_n 0, 1) rfl) rfl (j := 1) rfl ?_
      refine cv_get C (pc' := 7) rfl (k0 := 23) (i := 2) (ci := 2) (by decide) rfl rfl (by decide) (o := none) rfl iw_X2 wfX2_18 (D 4 (4, .getfield 18, 3) rfl) (v := .int (nI rc)) (congrArg Value.int hD.1) ?_
      refine cv_icmp_geN C (pc' := 10) rfl (by omega) (by omega) (tgt := 37) (D 5 (7, .if_icmp .ge 30, 3) rfl) (by decide) (fun b7 => ?_) (fun b7 => ?_)
      · skip
        omega
      · skip
        refine cv_aload_n C (pc' := 11) rfl (D 6 (10, .aload_n 1, 1) rfl) rfl (j := 2) rfl ?_
        refine cv_aload_n C (pc' := 12) rfl (D 7 (11, .aload_n 0, 1) rfl) rfl (j := 1) rfl ?_
        refine cv_get C (pc' := 15) rfl (k0 := 23) (i := 0) (ci := 2) (by decide) rfl rfl (by decide) (o := some 24) rfl iw_X2 wfX2_9 (D 8 (12, .getfield 9, 3) rfl) rfl ?_
        refine cv_iload_n C (pc' := 16) rfl (D 9 (15, .iload_n 2, 1) rfl) rfl (j := 0) rfl ?_
        refine cv_iald C (pc' := 17) rfl (k0 := 24) (j := i) (by decide) rfl rfl (by omega) (by decide) (D 10 (16, .iaload, 1) rfl) (v := nI (rd i)) (hD.2 _ (by omega)).1 ?_
        refine cv_callV C (pc' := 20) rfl (k0 := 10) (ci := 0) (As := [.int (nI (rd i))]) (rest := []) (idx := 22) (np := 1) (kX0_doneOn L f (rd i) σ hL hB hT (by omega)) (by decide) rfl rfl rfl (by decide +kernel) rfl wmX2_22 wi_yX0_doneOn ws_yX0_doneOn wn_X0 wc_yX0_doneOn (by decide) (by decide) (D 11 (17, .invokevirtual 22, 3) rfl) (Nat.le_of_ble_eq_true rfl) rfl (fun w9 u9 h9 => ?_)
        rw [h9.1, h9.2]
        show cv_At X _ _ σ 20 _ [.int (cv_o (cv_dw f (L 6 0) (rd i) (L 6 1) (L 6 2)))]
        refine cv_aload_n C (pc' := 21) rfl (D 12 (20, .aload_n 0, 1) rfl) rfl (j := 1) rfl ?_
        refine cv_get C (pc' := 24) rfl (k0 := 23) (i := 1) (ci := 2) (by decide) rfl rfl (by decide) (o := some 25) rfl iw_X2 wfX2_15 (D 13 (21, .getfield 15, 3) rfl) rfl ?_
        refine cv_iload_n C (pc' := 25) rfl (D 14 (24, .iload_n 2, 1) rfl) rfl (j := 0) rfl ?_
        refine cv_iald C (pc' := 26) rfl (k0 := 25) (j := i) (by decide) rfl rfl (by omega) (by decide) (D 15 (25, .iaload, 1) rfl) (v := cv_o (rn i)) (hD.2 _ (by omega)).2 ?_
        refine cv_icmp_eq C (pc' := 29) rfl (tgt := 31) (D 16 (26, .if_icmp .eq 5, 3) rfl) (by decide) (fun b26 => ?_) (fun b26 => ?_)
        · skip
          refine cv_iincN C (pc' := 34) rfl (D 19 (31, .iinc 2 1, 3) rfl) (j := 0) rfl (by decide) (lv' := [(2, .int (nI (i + 1))), (0, .ref 23), (1, .ref 10)]) rfl ?_
          refine cv_goto C (tgt := 2) (D 20 (34, .goto (-32), 3) rfl) (by decide) ?_
          exact ih2 (i + 1) (by omega) (cv_ex h0 (decide_eq_true (cv_o_inj (fun z h => Nat.lt_trans (cv_dw_lt h) (by decide)) (fun z h => Nat.lt_trans (hrd.2 z h) (by decide)) b26)))
        · skip
          refine cv_iconst C (pc' := 30) rfl (D 17 (29, .iconst 0, 1) rfl) (v := nI 0) (by decide) ?_
          exact cv_iret C Rt (by decide) (D 18 (30, .ireturn, 1) rfl) ⟨congrArg (fun z => some (Value.int z)) (by unfold cv_ho; rw [cv_al_f (k := i) (by omega) (decide_eq_false (fun e => b26 (congrArg cv_o e)))]; rfl), rfl⟩
  exact LP2 rc 0 (by omega) (fun q h => by omega)

