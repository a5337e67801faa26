set_option maxHeartbeats 4000000 in
set_option maxRecDepth 100000 in
theorem kX7_makeWheel (L : cv_L) (x : Int32) (f : Nat) (μ : cv_St) (hL : cv_LM L μ) (hB : cv_LB L) (hM : μ 0 13 = x) (hf : f < 8) : cv_Ct yX7_makeWheel cX7_makeWheel 5 none 3 0 0 17 cv_shM [.ref 0, .int (nI f)] μ (fun w u => w = none ∧ cv_fw μ u ∧ cv_SM (cv_mw L x f) u) := by
  refine cv_enter (own := RX7) (by decide) rfl (Nat.le_of_ble_eq_true rfl) ?_
  intro X a C Rt hRm
  have D := @cv_dec _ _ dkX7_makeWheel
  have hg0 := hB.2.2.2 0 (by decide)
  have hg1 := hB.2.2.2 1 (by decide)
  show cv_At X _ _ μ 0 [(0, .ref 0), (1, .int (nI f))] []
  refine cv_iconst C (pc' := 1) rfl (D 0 (0, .iconst 0, 1) rfl) (v := nI 0) (by decide) ?_
  refine cv_istore_n C (pc' := 2) rfl (D 1 (1, .istore_n 2, 1) rfl) rfl (by decide) (lv' := [(2, .int (nI 0)), (0, .ref 0), (1, .int (nI f))]) rfl ?_
  have LP2 : ∀ (r : Nat) (i : Nat) (τ : cv_St), (i + r = 48) → (∀ k, k ≠ 14 → τ k = μ k) → (∀ j, j < i → τ 14 j = -9) → cv_At X (17, cv_shM, 0, 0, a) 5 τ 2 [(2, .int (nI i)), (0, .ref 0), (1, .int (nI f))] [] := by
    intro r
    induction r with
    | zero =>
      intro i τ hr hK hI
      obtain rfl : i = 48 := by omega
      refine cv_iload_n C (pc' := 3) rfl (D 2 (2, .iload_n 2, 1) rfl) rfl (j := 0) rfl ?_
      refine cv_bipush C (pc' := 5) rfl (D 3 (3, .bipush 48, 2) rfl) (v := nI 48) (by decide) ?_
      refine cv_icmp_ge C (pc' := 8) rfl (tgt := 22) (D 4 (5, .if_icmp .ge 17, 3) rfl) (by decide) (fun _ => ?_) (fun h => absurd h (by decide))
      refine cv_aload_n C (pc' := 23) rfl (D 12 (22, .aload_n 0, 1) rfl) rfl (j := 1) rfl ?_
      refine cv_bipush C (pc' := 25) rfl (D 13 (23, .bipush (-9), 2) rfl) (v := -9) (by decide) ?_
      refine cv_put C (pc' := 28) rfl (k0 := 0) (i := 20) (ci := 7) (by decide) rfl rfl (by decide) rfl iw_X7 tyX7 tyX7_ok nmX7 wfX7_139 rfl rfl rfl (D 14 (25, .putfield 139, 3) rfl) ?_
      refine cv_aload_n C (pc' := 29) rfl (D 15 (28, .aload_n 0, 1) rfl) rfl (j := 1) rfl ?_
      refine cv_bipush C (pc' := 31) rfl (D 16 (29, .bipush (-9), 2) rfl) (v := -9) (by decide) ?_
      refine cv_put C (pc' := 34) rfl (k0 := 0) (i := 21) (ci := 7) (by decide) rfl rfl (by decide) rfl iw_X7 tyX7 tyX7_ok nmX7 wfX7_142 rfl rfl rfl (D 17 (31, .putfield 142, 3) rfl) ?_
      have hF0 : cv_fw μ (cv_u (cv_u τ 0 20 (-9)) 0 21 (-9)) := ⟨fun k a b => by rw [cv_u_c a, cv_u_c a]; exact hK k b, fun i a b => by rw [cv_u_i b, cv_u_i a, hK 0 (by decide)]⟩
      have hT0 : cv_TM (fun _ => none) (cv_u (cv_u τ 0 20 (-9)) 0 21 (-9)) := fun j hj => by rw [cv_u_c (by decide), cv_u_c (by decide)]; exact hI j hj
      have hy0 : (cv_u (cv_u τ 0 20 (-9)) 0 21 (-9)) 0 20 = cv_o none ∧ (cv_u (cv_u τ 0 20 (-9)) 0 21 (-9)) 0 21 = cv_o none := ⟨by rw [cv_u_i (by decide)]; exact cv_u_s, cv_u_s⟩
      obtain ⟨τ0, et0⟩ : ∃ z, z = (cv_u (cv_u τ 0 20 (-9)) 0 21 (-9)) := ⟨_, rfl⟩
      rw [← et0] at hF0 hT0 hy0 ⊢
      have hLτ0 := cv_LM_w hF0 hL
      refine cv_aload_n C (pc' := 35) rfl (D 18 (34, .aload_n 0, 1) rfl) rfl (j := 1) rfl ?_
      have J51 : ∀ (τa : cv_St), (cv_fw μ τa) → (cv_SM (cv_m0 L f) τa) → cv_At X (17, cv_shM, 0, 0, a) 5 τa 51 [(0, .ref 0), (1, .int (nI f))] [] := by
        intro τa hFa hSa
        refine cv_iload_n C (pc' := 52) rfl (D 29 (51, .iload_n 1, 1) rfl) rfl (j := 1) rfl ?_
        refine cv_istore_n C (pc' := 53) rfl (D 30 (52, .istore_n 2, 1) rfl) rfl (by decide) (lv' := [(2, .int (nI f)), (0, .ref 0), (1, .int (nI f))]) rfl ?_
        refine cv_pick [0, 1, 2] (lv' := [(2, .int (nI (f + 0))), (0, .ref 0), (1, .int (nI f))]) rfl ?_
        have LP53 : ∀ (r : Nat) (n : Nat) (τ1 : cv_St), (f + n + r = 8) → (cv_fw μ τ1) → (cv_SM (cv_ml L x f (cv_m0 L f) n) τ1) → cv_At X (17, cv_shM, 0, 0, a) 5 τ1 53 [(2, .int (nI (f + n))), (0, .ref 0), (1, .int (nI f))] [] := by
          intro r
          induction r with
          | zero =>
            intro n τ1 hr hFτ1 hSτ1
            refine cv_iload_n C (pc' := 54) rfl (D 31 (53, .iload_n 2, 1) rfl) rfl (j := 0) rfl ?_
            refine cv_bipush C (pc' := 56) rfl (D 32 (54, .bipush 8, 2) rfl) (v := nI 8) (by decide) ?_
            refine cv_icmp_geN C (pc' := 59) rfl (by omega) (by omega) (tgt := 129) (D 33 (56, .if_icmp .ge 73, 3) rfl) (by decide) (fun b56 => ?_) (fun b56 => ?_)
            · skip
              exact cv_vret C Rt (D 74 (129, .return_, 1) rfl) ⟨rfl, hFτ1, by unfold cv_mw; rw [show 8 - f = n by omega]; exact hSτ1⟩
            · skip
              omega
          | succ r ih53 =>
            intro n τ1 hr hFτ1 hSτ1
            have hLτ1 := cv_LM_w hFτ1 hL
            have hMτ1 : τ1 0 13 = x := by rw [hFτ1.2 13 (by decide) (by decide)]; exact hM
            have hzn : cv_SZ (cv_ml L x f (cv_m0 L f) n) := cv_ml_z hB (cv_m0_z L f) n (by omega)
            refine cv_iload_n C (pc' := 54) rfl (D 31 (53, .iload_n 2, 1) rfl) rfl (j := 0) rfl ?_
            refine cv_bipush C (pc' := 56) rfl (D 32 (54, .bipush 8, 2) rfl) (v := nI 8) (by decide) ?_
            refine cv_icmp_geN C (pc' := 59) rfl (by omega) (by omega) (tgt := 129) (D 33 (56, .if_icmp .ge 73, 3) rfl) (by decide) (fun b56 => ?_) (fun b56 => ?_)
            · skip
              omega
            · skip
              refine cv_aload_n C (pc' := 60) rfl (D 34 (59, .aload_n 0, 1) rfl) rfl (j := 1) rfl ?_
              have J94 : ∀ (τb : cv_St), (cv_fw μ τb) → (cv_SM (cv_bn L (f + n) (cv_ml L x f (cv_m0 L f) n)) τb) → cv_At X (17, cv_shM, 0, 0, a) 5 τb 94 [(2, .int (nI (f + n))), (0, .ref 0), (1, .int (nI f))] [] := by
                intro τb hFb hSb
                refine cv_iconst C (pc' := 95) rfl (D 56 (94, .iconst 0, 1) rfl) (v := nI 0) (by decide) ?_
                refine cv_istore C (pc' := 97) rfl (D 57 (95, .istore 4, 2) rfl) (by decide) (lv' := [(4, .int (nI 0)), (2, .int (nI (f + n))), (0, .ref 0), (1, .int (nI f))]) rfl ?_
                have LP97 : ∀ (q : Nat) (k : Nat) (τc : cv_St), (k + q = 6) → (cv_fw μ τc) → (cv_SM (cv_g6 L x (f + n) (cv_bn L (f + n) (cv_ml L x f (cv_m0 L f) n)) k) τc) → cv_At X (17, cv_shM, 0, 0, a) 5 τc 97 [(4, .int (nI k)), (2, .int (nI (f + n))), (0, .ref 0), (1, .int (nI f))] [] := by
                  intro q
                  induction q with
                  | zero =>
                    intro k τc hq hFτc hSτc
                    obtain rfl : k = 6 := by omega
                    refine cv_iload C (pc' := 99) rfl (D 58 (97, .iload 4, 2) rfl) (j := 0) rfl ?_
                    refine cv_bipush C (pc' := 101) rfl (D 59 (99, .bipush 6, 2) rfl) (v := nI 6) (by decide) ?_
                    refine cv_icmp_ge C (pc' := 104) rfl (tgt := 123) (D 60 (101, .if_icmp .ge 22, 3) rfl) (by decide) (fun _ => ?_) (fun h => absurd h (by decide))
                    refine cv_iincN C (pc' := 126) rfl (D 72 (123, .iinc 2 1, 3) rfl) (j := 1) rfl (by decide) (lv' := [(2, .int (nI ((f + n) + 1))), (4, .int (nI 6)), (0, .ref 0), (1, .int (nI f))]) rfl ?_
                    refine cv_goto C (tgt := 53) (D 73 (126, .goto (-73), 3) rfl) (by decide) ?_
                    refine cv_pick [0, 2, 3] (lv' := [(2, .int (nI ((f + n) + 1))), (0, .ref 0), (1, .int (nI f))]) rfl ?_
                    exact ih53 (n + 1) τc (by omega) hFτc hSτc
                  | succ q ih97 =>
                    intro k τc hq hFτc hSτc
                    have hLτc := cv_LM_w hFτc hL
                    have hMτc : τc 0 13 = x := by rw [hFτc.2 13 (by decide) (by decide)]; exact hM
                    have hzk : cv_SZ (cv_g6 L x (f + n) (cv_bn L (f + n) (cv_ml L x f (cv_m0 L f) n)) k) := cv_g6_z hB (by omega) (cv_bn_z hzn) k (by omega)
                    refine cv_iload C (pc' := 99) rfl (D 58 (97, .iload 4, 2) rfl) (j := 0) rfl ?_
                    refine cv_bipush C (pc' := 101) rfl (D 59 (99, .bipush 6, 2) rfl) (v := nI 6) (by decide) ?_
                    refine cv_icmp_geN C (pc' := 104) rfl (by omega) (by omega) (tgt := 123) (D 60 (101, .if_icmp .ge 22, 3) rfl) (by decide) (fun b101 => ?_) (fun b101 => ?_)
                    · skip
                      omega
                    · skip
                      refine cv_aload_n C (pc' := 105) rfl (D 61 (104, .aload_n 0, 1) rfl) rfl (j := 2) rfl ?_
                      refine cv_iload_n C (pc' := 106) rfl (D 62 (105, .iload_n 2, 1) rfl) rfl (j := 1) rfl ?_
                      refine cv_iload C (pc' := 108) rfl (D 63 (106, .iload 4, 2) rfl) (j := 0) rfl ?_
                      refine cv_iconst C (pc' := 109) rfl (D 64 (108, .iconst 2, 1) rfl) (v := nI 2) (by decide) ?_
                      refine cv_idivN C (pc' := 110) rfl (by omega) (by decide) (by decide) (D 65 (109, .idiv, 1) rfl) ?_
                      refine cv_iload C (pc' := 112) rfl (D 66 (110, .iload 4, 2) rfl) (j := 0) rfl ?_
                      refine cv_iconst C (pc' := 113) rfl (D 67 (112, .iconst 2, 1) rfl) (v := nI 2) (by decide) ?_
                      refine cv_iremN C (pc' := 114) rfl (by omega) (by decide) (by decide) (D 68 (113, .irem, 1) rfl) ?_
                      refine cv_callV C (pc' := 117) rfl (k0 := 0) (ci := 7) (As := [.int (nI (f + n)), .int (nI (k / 2)), .int (nI (k % 2))]) (rest := []) (idx := 153) (np := 3) (kX7_goOn L x (cv_g6 L x (f + n) (cv_bn L (f + n) (cv_ml L x f (cv_m0 L f) n)) k) (f + n) (k / 2) (k % 2) τc hLτc hB hMτc hSτc hzk (by omega) (by omega) (by omega)) (by decide) rfl rfl rfl (by decide +kernel) rfl wmX7_153 wi_yX7_goOn ws_yX7_goOn wn_X7 wc_yX7_goOn (by decide) (by decide) (D 69 (114, .invokevirtual 153, 3) rfl) (Nat.le_of_ble_eq_true rfl) rfl (fun w114 u114 h114 => ?_)
                      obtain ⟨e114, f114, hSu114⟩ := h114
                      rw [e114]
                      have hFu114 : cv_fw μ u114 := cv_fw_t hFτc f114
                      show cv_At X _ _ u114 117 _ []
                      refine cv_iincN C (pc' := 120) rfl (D 70 (117, .iinc 4 1, 3) rfl) (j := 0) rfl (by decide) (lv' := [(4, .int (nI (k + 1))), (2, .int (nI (f + n))), (0, .ref 0), (1, .int (nI f))]) rfl ?_
                      refine cv_goto C (tgt := 97) (D 71 (120, .goto (-23), 3) rfl) (by decide) ?_
                      exact ih97 (k + 1) u114 (by omega) hFu114 hSu114
                exact LP97 6 0 τb (by decide) hFb hSb
              refine cv_get C (pc' := 63) rfl (k0 := 0) (i := 19) (ci := 7) (by decide) rfl rfl (by decide) (o := some 14) rfl iw_X7 wfX7_53 (D 35 (60, .getfield 53, 3) rfl) rfl ?_
              refine cv_iload_n C (pc' := 64) rfl (D 36 (63, .iload_n 2, 1) rfl) rfl (j := 0) rfl ?_
              refine cv_iconst C (pc' := 65) rfl (D 37 (64, .iconst 1, 1) rfl) (v := nI 1) (by decide) ?_
              refine cv_iconst C (pc' := 66) rfl (D 38 (65, .iconst 0, 1) rfl) (v := nI 0) (by decide) ?_
              refine cv_callS C (pc' := 69) rfl (As := [.int (nI (f + n)), .int (nI 1), .int (nI 0)]) (rest := [.ref 14]) (idx := 133) (np := 3) (kX7_spot (f + n) 1 0 τ1) (by decide +kernel) rfl wmX7_133 wt_yX7_spot wn_X7 wc_yX7_spot (by decide) (by decide) (D 39 (66, .invokestatic 133, 3) rfl) (Nat.le_of_ble_eq_true rfl) rfl (fun w9 u9 h9 => ?_)
              rw [h9.1, h9.2]
              show cv_At X _ _ τ1 69 _ [.int (nI ((3 * (f + n) + 1) * 2 + 0)), .ref 14]
              refine cv_iald C (pc' := 70) rfl (k0 := 14) (j := (3 * (f + n) + 1) * 2 + 0) (by decide) rfl rfl (by omega) (by decide) (D 40 (69, .iaload, 1) rfl) (v := cv_o ((cv_ml L x f (cv_m0 L f) n).1 ((3 * (f + n) + 1) * 2 + 0))) (hSτ1.1 _ (by omega)) ?_
              refine cv_istore_n C (pc' := 71) rfl (D 41 (70, .istore_n 3, 1) rfl) rfl (by decide) (lv' := [(3, .int (cv_o ((cv_ml L x f (cv_m0 L f) n).1 ((3 * (f + n) + 1) * 2 + 0)))), (2, .int (nI (f + n))), (0, .ref 0), (1, .int (nI f))]) rfl ?_
              refine cv_iload_n C (pc' := 72) rfl (D 42 (71, .iload_n 3, 1) rfl) rfl (j := 0) rfl ?_
              refine cv_bipush C (pc' := 74) rfl (D 43 (72, .bipush (-9), 2) rfl) (v := -9) (by decide) ?_
              refine cv_icmp_eqO C (pc' := 77) rfl (fun z h9 => by have := hzn.1 _ _ h9; omega) (tgt := 94) (D 44 (74, .if_icmp .eq 20, 3) rfl) (by decide) (fun b74 => ?_) (fun z74 b74 => ?_)
              · skip
                refine cv_pick [1, 2, 3] (lv' := [(2, .int (nI (f + n))), (0, .ref 0), (1, .int (nI f))]) rfl ?_
                exact J94 τ1 hFτ1 (by unfold cv_bn; rw [b74]; exact hSτ1)
              · skip
                have ez74 : cv_o ((cv_ml L x f (cv_m0 L f) n).1 ((3 * (f + n) + 1) * 2 + 0)) = nI z74 := by rw [b74]; rfl
                rw [ez74]
                have hzb := hzn.1 _ _ b74
                refine cv_aload_n C (pc' := 78) rfl (D 45 (77, .aload_n 0, 1) rfl) rfl (j := 2) rfl ?_
                refine cv_iconst C (pc' := 79) rfl (D 46 (78, .iconst 1, 1) rfl) (v := nI 1) (by decide) ?_
                refine cv_iload_n C (pc' := 80) rfl (D 47 (79, .iload_n 2, 1) rfl) rfl (j := 1) rfl ?_
                refine cv_callV C (pc' := 83) rfl (k0 := 0) (ci := 7) (As := [.int (nI 1), .int (nI (f + n))]) (rest := []) (idx := 136) (np := 2) (kX7_doesGive L 1 (f + n) τ1 hLτ1 hB (by omega) (by omega)) (by decide) rfl rfl rfl (by decide +kernel) rfl wmX7_136 wi_yX7_doesGive ws_yX7_doesGive wn_X7 wc_yX7_doesGive (by decide) (by decide) (D 48 (80, .invokevirtual 136, 3) rfl) (Nat.le_of_ble_eq_true rfl) rfl (fun w9 u9 h9 => ?_)
                rw [h9.1, h9.2]
                show cv_At X _ _ τ1 83 _ [.int (cv_b ((L 6 1).testBit (f + n)))]
                refine cv_if_eqB C (pc' := 86) rfl (tgt := 94) (D 49 (83, .ifCond .eq 11, 3) rfl) (by decide) (fun b83 => ?_) (fun b83 => ?_)
                · skip
                  refine cv_pick [1, 2, 3] (lv' := [(2, .int (nI (f + n))), (0, .ref 0), (1, .int (nI f))]) rfl ?_
                  exact J94 τ1 hFτ1 (by unfold cv_bn; rw [b74]; dsimp only; rw [if_neg (by simp [b83])]; exact hSτ1)
                · skip
                  refine cv_aload_n C (pc' := 87) rfl (D 50 (86, .aload_n 0, 1) rfl) rfl (j := 2) rfl ?_
                  refine cv_iload_n C (pc' := 88) rfl (D 51 (87, .iload_n 2, 1) rfl) rfl (j := 1) rfl ?_
                  refine cv_iconst C (pc' := 89) rfl (D 52 (88, .iconst 1, 1) rfl) (v := nI 1) (by decide) ?_
                  refine cv_iconst C (pc' := 90) rfl (D 53 (89, .iconst 1, 1) rfl) (v := nI 1) (by decide) ?_
                  refine cv_iload_n C (pc' := 91) rfl (D 54 (90, .iload_n 3, 1) rfl) rfl (j := 0) rfl ?_
                  refine cv_callV C (pc' := 94) rfl (k0 := 0) (ci := 7) (As := [.int (nI (f + n)), .int (nI 1), .int (nI 1), .int (nI z74)]) (rest := []) (idx := 145) (np := 4) (kX7_comes (cv_ml L x f (cv_m0 L f) n).1 (f + n) 1 1 z74 τ1 hSτ1.1 hzn.1 (by omega) (by omega) (by omega) (by omega)) (by decide) rfl rfl rfl (by decide +kernel) rfl wmX7_145 wi_yX7_comes ws_yX7_comes wn_X7 wc_yX7_comes (by decide) (by decide) (D 55 (91, .invokevirtual 145, 3) rfl) (Nat.le_of_ble_eq_true rfl) rfl (fun w91 u91 h91 => ?_)
                  obtain ⟨e91, f91, t91⟩ := h91
                  rw [e91]
                  have hFu91 : cv_fw μ u91 := cv_fw_t hFτ1 (cv_fw_14 f91)
                  show cv_At X _ _ u91 94 _ []
                  refine cv_pick [1, 2, 3] (lv' := [(2, .int (nI (f + n))), (0, .ref 0), (1, .int (nI f))]) rfl ?_
                  exact J94 u91 hFu91 (by unfold cv_bn; rw [b74]; dsimp only; rw [if_pos b83]; exact ⟨t91, by rw [f91 0 (by decide)]; exact hSτ1.2.1, by rw [f91 0 (by decide)]; exact hSτ1.2.2⟩)
        exact LP53 (8 - f) 0 τa (by omega) hFa hSa
      refine cv_iconst C (pc' := 36) rfl (D 19 (35, .iconst 0, 1) rfl) (v := nI 0) (by decide) ?_
      refine cv_iload_n C (pc' := 37) rfl (D 20 (36, .iload_n 1, 1) rfl) rfl (j := 2) rfl ?_
      refine cv_callV C (pc' := 40) rfl (k0 := 0) (ci := 7) (As := [.int (nI 0), .int (nI f)]) (rest := []) (idx := 136) (np := 2) (kX7_doesGive L 0 f τ0 hLτ0 hB (by omega) (by omega)) (by decide) rfl rfl rfl (by decide +kernel) rfl wmX7_136 wi_yX7_doesGive ws_yX7_doesGive wn_X7 wc_yX7_doesGive (by decide) (by decide) (D 21 (37, .invokevirtual 136, 3) rfl) (Nat.le_of_ble_eq_true rfl) rfl (fun w9 u9 h9 => ?_)
      rw [h9.1, h9.2]
      show cv_At X _ _ τ0 40 _ [.int (cv_b ((L 6 0).testBit f))]
      refine cv_if_eqB C (pc' := 43) rfl (tgt := 51) (D 22 (40, .ifCond .eq 11, 3) rfl) (by decide) (fun b40 => ?_) (fun b40 => ?_)
      · skip
        refine cv_pick [1, 2] (lv' := [(0, .ref 0), (1, .int (nI f))]) rfl ?_
        exact J51 τ0 hF0 ⟨by unfold cv_m0; dsimp only; rw [if_neg (by simp [b40])]; exact hT0, hy0.1, hy0.2⟩
      · skip
        refine cv_aload_n C (pc' := 44) rfl (D 23 (43, .aload_n 0, 1) rfl) rfl (j := 1) rfl ?_
        refine cv_iload_n C (pc' := 45) rfl (D 24 (44, .iload_n 1, 1) rfl) rfl (j := 2) rfl ?_
        refine cv_iconst C (pc' := 46) rfl (D 25 (45, .iconst 0, 1) rfl) (v := nI 0) (by decide) ?_
        refine cv_iconst C (pc' := 47) rfl (D 26 (46, .iconst 0, 1) rfl) (v := nI 0) (by decide) ?_
        refine cv_iconst C (pc' := 48) rfl (D 27 (47, .iconst 0, 1) rfl) (v := nI 0) (by decide) ?_
        refine cv_callV C (pc' := 51) rfl (k0 := 0) (ci := 7) (As := [.int (nI f), .int (nI 0), .int (nI 0), .int (nI 0)]) (rest := []) (idx := 145) (np := 4) (kX7_comes (fun _ => none) f 0 0 0 τ0 hT0 (fun j z h => by cases h) (by omega) (by omega) (by omega) (by omega)) (by decide) rfl rfl rfl (by decide +kernel) rfl wmX7_145 wi_yX7_comes ws_yX7_comes wn_X7 wc_yX7_comes (by decide) (by decide) (D 28 (48, .invokevirtual 145, 3) rfl) (Nat.le_of_ble_eq_true rfl) rfl (fun w48 u48 h48 => ?_)
        obtain ⟨e48, f48, t48⟩ := h48
        rw [e48]
        have hFu48 : cv_fw μ u48 := cv_fw_t hF0 (cv_fw_14 f48)
        show cv_At X _ _ u48 51 _ []
        refine cv_pick [1, 2] (lv' := [(0, .ref 0), (1, .int (nI f))]) rfl ?_
        exact J51 u48 hFu48 ⟨by unfold cv_m0; dsimp only; rw [if_pos b40]; exact t48, by rw [f48 0 (by decide)]; exact hy0.1, by rw [f48 0 (by decide)]; exact hy0.2⟩
    | succ r ih2 =>
      intro i τ hr hK hI
      refine cv_iload_n C (pc' := 3) rfl (D 2 (2, .iload_n 2, 1) rfl) rfl (j := 0) rfl ?_
      refine cv_bipush C (pc' := 5) rfl (D 3 (3, .bipush 48, 2) rfl) (v := nI 48) (by decide) ?_
      refine cv_icmp_geN C (pc' := 8) rfl (by omega) (by omega) (tgt := 22) (D 4 (5, .if_icmp .ge 17, 3) rfl) (by decide) (fun b5 => ?_) (fun b5 => ?_)
      · skip
        omega
      · skip
        refine cv_aload_n C (pc' := 9) rfl (D 5 (8, .aload_n 0, 1) rfl) rfl (j := 1) rfl ?_
        refine cv_get C (pc' := 12) rfl (k0 := 0) (i := 19) (ci := 7) (by decide) rfl rfl (by decide) (o := some 14) rfl iw_X7 wfX7_53 (D 6 (9, .getfield 53, 3) rfl) rfl ?_
        refine cv_iload_n C (pc' := 13) rfl (D 7 (12, .iload_n 2, 1) rfl) rfl (j := 0) rfl ?_
        refine cv_bipush C (pc' := 15) rfl (D 8 (13, .bipush (-9), 2) rfl) (v := -9) (by decide) ?_
        refine cv_iast C (pc' := 16) rfl (k0 := 14) (j := i) (by decide) rfl rfl (by omega) (by decide) (D 9 (15, .iastore, 1) rfl) ?_
        refine cv_iincN C (pc' := 19) rfl (D 10 (16, .iinc 2 1, 3) rfl) (j := 0) rfl (by decide) (lv' := [(2, .int (nI (i + 1))), (0, .ref 0), (1, .int (nI f))]) rfl ?_
        refine cv_goto C (tgt := 2) (D 11 (19, .goto (-17), 3) rfl) (by decide) ?_
        exact ih2 (i + 1) (cv_u τ 14 i (-9)) (by omega) (fun k hk => by rw [cv_u_c hk]; exact hK k hk) (cv_ex (fun j hj => by rw [cv_u_i (by omega)]; exact hI j hj) cv_u_s)
  exact LP2 48 0 μ (by decide) (fun _ _ => rfl) (fun j h => by omega)

