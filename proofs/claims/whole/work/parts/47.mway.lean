/-- the reference's wheel on a way -/
def cv_WM (q : cv_Q) (μ : cv_St) : Prop := μ 0 22 = nI q.1 ∧ μ 0 23 = nI q.2.1 ∧ μ 0 24 = nI q.2.2.1 ∧ μ 0 25 = nI q.2.2.2
/-- but for its wheel on a way, as it was -/
def cv_fy (μ u : cv_St) : Prop := (∀ k, k ≠ 0 → u k = μ k) ∧ ∀ i, i < 22 ∨ 26 ≤ i → u 0 i = μ 0 i
theorem cv_fy_r (μ : cv_St) : cv_fy μ μ := ⟨fun _ _ => rfl, fun _ _ => rfl⟩
theorem cv_fy_t {μ u w : cv_St} (h1 : cv_fy μ u) (h2 : cv_fy u w) : cv_fy μ w := ⟨fun k a => (h2.1 k a).trans (h1.1 k a), fun i a => (h2.2 i a).trans (h1.2 i a)⟩
theorem cv_fy_u {μ τ : cv_St} {i : Nat} {v : Int32} (h : cv_fy μ τ) (hi : 22 ≤ i ∧ i < 26) : cv_fy μ (cv_u τ 0 i v) := ⟨fun k a => by rw [cv_u_c a]; exact h.1 k a, fun j hj => by rw [cv_u_i (by omega)]; exact h.2 j hj⟩
theorem cv_fy_m {μ u : cv_St} (h : cv_fy μ u) : cv_fm μ u := ⟨fun k a _ => h.1 k a, fun i hi => h.2 i (by omega)⟩
theorem kX7_win {n : Nat} {sh : Nat → cv_Sh} (v : Int32) (hi : Nat) (μ : cv_St) (h : hi + 1 < 2 ^ 31) : cv_Ct yX7_within cX7_within 3 (some .boolean) 0 0 0 n sh [.int v, .int (nI 0), .int (nI hi)] μ (cv_pu (.int (cv_b (cv_in v (hi + 1)))) μ) := by
  rw [← cv_in_le h]
  exact kX7_within v (nI 0) (nI hi) μ
set_option maxHeartbeats 4000000 in
set_option maxRecDepth 100000 in
theorem kX7_goStep (L : cv_L) (q : cv_Q) (x : Nat) (μ : cv_St) (hL : cv_LM L μ) (hB : cv_LB L) (hM : μ 0 13 = -9) (hW : cv_WM q μ) (hWB : cv_WB q) (hx : x < 6 → x < L 7 0) (hx9 : x ≤ 8) : cv_Ct yX7_goStep cX7_goStep 3 (some .boolean) 1 0 0 17 cv_shM [.ref 0, .int (nI x)] μ (fun v u => v = some (.int (cv_b (cv_st L x q).isSome)) ∧ cv_fy μ u ∧ ∀ q2, cv_st L x q = some q2 → cv_WM q2 u) := by
  refine cv_enter (own := RX7) (by decide) rfl (Nat.le_of_ble_eq_true rfl) ?_
  intro X a C Rt hRm
  have D := @cv_dec _ _ dkX7_goStep
  obtain ⟨hq1, hq2, hq3, hq4⟩ := id hWB
  have hn6 := hB.1
  show cv_At X _ _ μ 0 [(0, .ref 0), (1, .int (nI x))] []
  refine cv_aload_n C (pc' := 1) rfl (D 0 (0, .aload_n 0, 1) rfl) rfl (j := 0) rfl ?_
  refine cv_get C (pc' := 4) rfl (k0 := 0) (i := 24) (ci := 7) (by decide) rfl rfl (by decide) (o := none) rfl iw_X7 wfX7_164 (D 1 (1, .getfield 164, 3) rfl) (v := .int (nI q.2.2.1)) (congrArg Value.int hW.2.2.1) ?_
  refine cv_iconst C (pc' := 5) rfl (D 2 (4, .iconst 2, 1) rfl) (v := nI 2) (by decide) ?_
  refine cv_icmp_neN C (pc' := 8) rfl (by omega) (by omega) (tgt := 10) (D 3 (5, .if_icmp .ne 5, 3) rfl) (by decide) (fun b5 => ?_) (fun b5 => ?_)
  · skip
    refine cv_iload_n C (pc' := 11) rfl (D 6 (10, .iload_n 1, 1) rfl) rfl (j := 1) rfl ?_
    refine cv_bipush C (pc' := 13) rfl (D 7 (11, .bipush 6, 2) rfl) (v := nI 6) (by decide) ?_
    refine cv_icmp_neN C (pc' := 16) rfl (by omega) (by omega) (tgt := 51) (D 8 (13, .if_icmp .ne 38, 3) rfl) (by decide) (fun b13 => ?_) (fun b13 => ?_)
    · skip
      refine cv_iload_n C (pc' := 52) rfl (D 29 (51, .iload_n 1, 1) rfl) rfl (j := 1) rfl ?_
      refine cv_bipush C (pc' := 54) rfl (D 30 (52, .bipush 7, 2) rfl) (v := nI 7) (by decide) ?_
      refine cv_icmp_neN C (pc' := 57) rfl (by omega) (by omega) (tgt := 97) (D 31 (54, .if_icmp .ne 43, 3) rfl) (by decide) (fun b54 => ?_) (fun b54 => ?_)
      · skip
        refine cv_iload_n C (pc' := 98) rfl (D 54 (97, .iload_n 1, 1) rfl) rfl (j := 1) rfl ?_
        refine cv_bipush C (pc' := 100) rfl (D 55 (98, .bipush 8, 2) rfl) (v := nI 8) (by decide) ?_
        refine cv_icmp_neN C (pc' := 103) rfl (by omega) (by omega) (tgt := 144) (D 56 (100, .if_icmp .ne 44, 3) rfl) (by decide) (fun b100 => ?_) (fun b100 => ?_)
        · skip
          have hp : x < L 7 0 := hx (by omega)
          have hp6 : x < 6 := by omega
          have htk := cv_tk_b hB hp
          refine cv_aload_n C (pc' := 145) rfl (D 80 (144, .aload_n 0, 1) rfl) rfl (j := 0) rfl ?_
          refine cv_iload_n C (pc' := 146) rfl (D 81 (145, .iload_n 1, 1) rfl) rfl (j := 1) rfl ?_
          refine cv_aload_n C (pc' := 147) rfl (D 82 (146, .aload_n 0, 1) rfl) rfl (j := 0) rfl ?_
          refine cv_get C (pc' := 150) rfl (k0 := 0) (i := 22) (ci := 7) (by decide) rfl rfl (by decide) (o := none) rfl iw_X7 wfX7_167 (D 83 (147, .getfield 167, 3) rfl) (v := .int (nI q.1)) (congrArg Value.int hW.1) ?_
          refine cv_callV C (pc' := 153) rfl (k0 := 0) (ci := 7) (As := [.int (nI x), .int (nI q.1)]) (rest := []) (idx := 130) (np := 2) (kX7_isOpen L (-9) x q.1 μ hL hB hM hp (by omega)) (by decide) rfl rfl rfl (by decide +kernel) rfl wmX7_130 wi_yX7_isOpen ws_yX7_isOpen wn_X7 wc_yX7_isOpen (by decide) (by decide) (D 84 (150, .invokevirtual 130, 3) rfl) (Nat.le_of_ble_eq_true rfl) rfl (fun w9 u9 h9 => ?_)
          rw [h9.1, h9.2]
          show cv_At X _ _ μ 153 _ [.int (cv_b (decide (¬ nI x = -9) && cv_op L x q.1))]
          refine cv_if_eqB C (pc' := 156) rfl (tgt := 185) (D 85 (153, .ifCond .eq 32, 3) rfl) (by decide) (fun b153 => ?_) (fun b153 => ?_)
          · skip
            refine cv_iconst C (pc' := 186) rfl (D 101 (185, .iconst 0, 1) rfl) (v := nI 0) (by decide) ?_
            exact cv_iret C Rt (by decide) (D 102 (186, .ireturn, 1) rfl) (by have hst : cv_st L x q = none := (by unfold cv_st; rw [decide_eq_true (cv_m9 (by omega)), Bool.true_and] at b153; rw [if_neg b5, if_neg b13, if_neg b54, if_neg b100]; unfold cv_ar; rw [if_pos (Or.inr b153)]); exact ⟨by rw [hst]; rfl, (cv_fy_r μ), fun q2 h => by rw [hst] at h; cases h⟩)
          · skip
            refine cv_aload_n C (pc' := 157) rfl (D 86 (156, .aload_n 0, 1) rfl) rfl (j := 0) rfl ?_
            refine cv_iload_n C (pc' := 158) rfl (D 87 (157, .iload_n 1, 1) rfl) rfl (j := 1) rfl ?_
            refine cv_aload_n C (pc' := 159) rfl (D 88 (158, .aload_n 0, 1) rfl) rfl (j := 0) rfl ?_
            refine cv_get C (pc' := 162) rfl (k0 := 0) (i := 23) (ci := 7) (by decide) rfl rfl (by decide) (o := none) rfl iw_X7 wfX7_173 (D 89 (159, .getfield 173, 3) rfl) (v := .int (nI q.2.1)) (congrArg Value.int hW.2.1) ?_
            refine cv_callV C (pc' := 165) rfl (k0 := 0) (ci := 7) (As := [.int (nI x), .int (nI q.2.1)]) (rest := []) (idx := 149) (np := 2) (kX7_over L x q.2.1 μ hL hB hp (by omega)) (by decide) rfl rfl rfl (by decide +kernel) rfl wmX7_149 wi_yX7_over ws_yX7_over wn_X7 wc_yX7_over (by decide) (by decide) (D 90 (162, .invokevirtual 149, 3) rfl) (Nat.le_of_ble_eq_true rfl) rfl (fun w9 u9 h9 => ?_)
            rw [h9.1, h9.2]
            show cv_At X _ _ μ 165 _ [.int (cv_o (cv_oe L x q.2.1))]
            refine cv_bipush C (pc' := 167) rfl (D 91 (165, .bipush (-9), 2) rfl) (v := -9) (by decide) ?_
            refine cv_icmp_eqO C (pc' := 170) rfl (fun z h => Nat.lt_of_le_of_lt (cv_oe_le hB hp h) (by decide)) (tgt := 185) (D 92 (167, .if_icmp .eq 18, 3) rfl) (by decide) (fun b167 => ?_) (fun z167 b167 => ?_)
            · skip
              refine cv_iconst C (pc' := 186) rfl (D 101 (185, .iconst 0, 1) rfl) (v := nI 0) (by decide) ?_
              exact cv_iret C Rt (by decide) (D 102 (186, .ireturn, 1) rfl) (by have hst : cv_st L x q = none := (by unfold cv_st; rw [if_neg b5, if_neg b13, if_neg b54, if_neg b100]; unfold cv_ar; rw [if_pos (Or.inl b167)]); exact ⟨by rw [hst]; rfl, (cv_fy_r μ), fun q2 h => by rw [hst] at h; cases h⟩)
            · skip
              refine cv_aload_n C (pc' := 171) rfl (D 93 (170, .aload_n 0, 1) rfl) rfl (j := 0) rfl ?_
              refine cv_get C (pc' := 174) rfl (k0 := 0) (i := 22) (ci := 7) (by decide) rfl rfl (by decide) (o := none) rfl iw_X7 wfX7_167 (D 94 (171, .getfield 167, 3) rfl) (v := .int (nI q.1)) (congrArg Value.int hW.1) ?_
              refine cv_aload_n C (pc' := 175) rfl (D 95 (174, .aload_n 0, 1) rfl) rfl (j := 0) rfl ?_
              refine cv_iload_n C (pc' := 176) rfl (D 96 (175, .iload_n 1, 1) rfl) rfl (j := 1) rfl ?_
              refine cv_callV C (pc' := 179) rfl (k0 := 0) (ci := 7) (As := [.int (nI x)]) (rest := [.int (nI q.1)]) (idx := 121) (np := 1) (kX7_takes L x μ hL hB hp) (by decide) rfl rfl rfl (by decide +kernel) rfl wmX7_121 wi_yX7_takes ws_yX7_takes wn_X7 wc_yX7_takes (by decide) (by decide) (D 97 (176, .invokevirtual 121, 3) rfl) (Nat.le_of_ble_eq_true rfl) rfl (fun w9 u9 h9 => ?_)
              rw [h9.1, h9.2]
              show cv_At X _ _ μ 179 _ [.int (nI (cv_tk L x)), .int (nI q.1)]
              refine cv_iaddN C (pc' := 180) rfl (D 98 (179, .iadd, 1) rfl) ?_
              refine cv_bipush C (pc' := 182) rfl (D 99 (180, .bipush 8, 2) rfl) (v := nI 8) (by decide) ?_
              refine cv_icmp_ltN C (pc' := 185) rfl (by omega) (by omega) (tgt := 187) (D 100 (182, .if_icmp .lt 5, 3) rfl) (by decide) (fun b182 => ?_) (fun b182 => ?_)
              · skip
                refine cv_aload_n C (pc' := 188) rfl (D 103 (187, .aload_n 0, 1) rfl) rfl (j := 0) rfl ?_
                refine cv_dup C (pc' := 189) rfl (D 104 (188, .dup, 1) rfl) rfl ?_
                refine cv_get C (pc' := 192) rfl (k0 := 0) (i := 22) (ci := 7) (by decide) rfl rfl (by decide) (o := none) rfl iw_X7 wfX7_167 (D 105 (189, .getfield 167, 3) rfl) (v := .int (nI q.1)) (congrArg Value.int hW.1) ?_
                refine cv_aload_n C (pc' := 193) rfl (D 106 (192, .aload_n 0, 1) rfl) rfl (j := 0) rfl ?_
                refine cv_iload_n C (pc' := 194) rfl (D 107 (193, .iload_n 1, 1) rfl) rfl (j := 1) rfl ?_
                refine cv_callV C (pc' := 197) rfl (k0 := 0) (ci := 7) (As := [.int (nI x)]) (rest := [.int (nI q.1), .ref 0]) (idx := 121) (np := 1) (kX7_takes L x μ hL hB hp) (by decide) rfl rfl rfl (by decide +kernel) rfl wmX7_121 wi_yX7_takes ws_yX7_takes wn_X7 wc_yX7_takes (by decide) (by decide) (D 108 (194, .invokevirtual 121, 3) rfl) (Nat.le_of_ble_eq_true rfl) rfl (fun w9 u9 h9 => ?_)
                rw [h9.1, h9.2]
                show cv_At X _ _ μ 197 _ [.int (nI (cv_tk L x)), .int (nI q.1), .ref 0]
                refine cv_iaddN C (pc' := 198) rfl (D 109 (197, .iadd, 1) rfl) ?_
                refine cv_put C (pc' := 201) rfl (k0 := 0) (i := 22) (ci := 7) (by decide) rfl rfl (by decide) rfl iw_X7 tyX7 tyX7_ok nmX7 wfX7_167 rfl rfl rfl (D 110 (198, .putfield 167, 3) rfl) ?_
                refine cv_aload_n C (pc' := 202) rfl (D 111 (201, .aload_n 0, 1) rfl) rfl (j := 0) rfl ?_
                refine cv_aload_n C (pc' := 203) rfl (D 112 (202, .aload_n 0, 1) rfl) rfl (j := 0) rfl ?_
                refine cv_iload_n C (pc' := 204) rfl (D 113 (203, .iload_n 1, 1) rfl) rfl (j := 1) rfl ?_
                refine cv_aload_n C (pc' := 205) rfl (D 114 (204, .aload_n 0, 1) rfl) rfl (j := 0) rfl ?_
                refine cv_get C (pc' := 208) rfl (k0 := 0) (i := 23) (ci := 7) (by decide) rfl rfl (by decide) (o := none) rfl iw_X7 wfX7_173 (D 115 (205, .getfield 173, 3) rfl) (v := .int (nI q.2.1)) (congrArg Value.int ((cv_u_i (by omega)).trans hW.2.1)) ?_
                refine cv_callV C (pc' := 211) rfl (k0 := 0) (ci := 7) (As := [.int (nI x), .int (nI q.2.1)]) (rest := [.ref 0]) (idx := 149) (np := 2) (kX7_over L x q.2.1 (cv_u μ 0 22 (nI (q.1 + (cv_tk L x)))) (cv_LM_0 (by decide) hL) hB hp (by omega)) (by decide) rfl rfl rfl (by decide +kernel) rfl wmX7_149 wi_yX7_over ws_yX7_over wn_X7 wc_yX7_over (by decide) (by decide) (D 116 (208, .invokevirtual 149, 3) rfl) (Nat.le_of_ble_eq_true rfl) rfl (fun w9 u9 h9 => ?_)
                rw [h9.1, h9.2]
                show cv_At X _ _ (cv_u μ 0 22 (nI (q.1 + (cv_tk L x)))) 211 _ [.int (cv_o (cv_oe L x q.2.1)), .ref 0]
                refine cv_top (w := nI z167) (by rw [b167]; rfl) ?_
                refine cv_put C (pc' := 214) rfl (k0 := 0) (i := 23) (ci := 7) (by decide) rfl rfl (by decide) rfl iw_X7 tyX7 tyX7_ok nmX7 wfX7_173 rfl rfl rfl (D 117 (211, .putfield 173, 3) rfl) ?_
                refine cv_iconst C (pc' := 215) rfl (D 118 (214, .iconst 1, 1) rfl) (v := nI 1) (by decide) ?_
                exact cv_iret C Rt (by decide) (D 119 (215, .ireturn, 1) rfl) (by have hst : cv_st L x q = some (q.1 + cv_tk L x, z167, q.2.2.1, q.2.2.2) := (by unfold cv_st; rw [decide_eq_true (cv_m9 (by omega)), Bool.true_and] at b153; rw [if_neg b5, if_neg b13, if_neg b54, if_neg b100]; unfold cv_ar; rw [if_neg (fun h => by rw [b167, b153] at h; rcases h with h | h <;> cases h), if_pos (by omega), b167]; rfl); exact ⟨by rw [hst]; rfl, (cv_fy_u (cv_fy_u (cv_fy_r μ) (by decide)) (by decide)), fun q2 h => by rw [hst] at h; cases h; exact ⟨((cv_u_i (by omega)).trans cv_u_s), cv_u_s, ((cv_u_i (by omega)).trans ((cv_u_i (by omega)).trans hW.2.2.1)), ((cv_u_i (by omega)).trans ((cv_u_i (by omega)).trans hW.2.2.2))⟩⟩)
              · skip
                refine cv_iconst C (pc' := 186) rfl (D 101 (185, .iconst 0, 1) rfl) (v := nI 0) (by decide) ?_
                exact cv_iret C Rt (by decide) (D 102 (186, .ireturn, 1) rfl) (by have hst : cv_st L x q = none := (by unfold cv_st; rw [decide_eq_true (cv_m9 (by omega)), Bool.true_and] at b153; rw [if_neg b5, if_neg b13, if_neg b54, if_neg b100]; unfold cv_ar; rw [if_neg (fun h => by rw [b167, b153] at h; rcases h with h | h <;> cases h), if_neg (by omega)]); exact ⟨by rw [hst]; rfl, (cv_fy_r μ), fun q2 h => by rw [hst] at h; cases h⟩)
        · skip
          refine cv_aload_n C (pc' := 104) rfl (D 57 (103, .aload_n 0, 1) rfl) rfl (j := 0) rfl ?_
          refine cv_get C (pc' := 107) rfl (k0 := 0) (i := 23) (ci := 7) (by decide) rfl rfl (by decide) (o := none) rfl iw_X7 wfX7_173 (D 58 (104, .getfield 173, 3) rfl) (v := .int (nI q.2.1)) (congrArg Value.int hW.2.1) ?_
          refine cv_iconst C (pc' := 108) rfl (D 59 (107, .iconst 2, 1) rfl) (v := nI 2) (by decide) ?_
          refine cv_icmp_neN C (pc' := 111) rfl (by omega) (by omega) (tgt := 135) (D 60 (108, .if_icmp .ne 27, 3) rfl) (by decide) (fun b108 => ?_) (fun b108 => ?_)
          · skip
            refine cv_iconst C (pc' := 136) rfl (D 73 (135, .iconst 0, 1) rfl) (v := nI 0) (by decide) ?_
            refine cv_istore_n C (pc' := 137) rfl (D 74 (136, .istore_n 2, 1) rfl) rfl (by decide) (lv' := [(2, .int (nI 0)), (0, .ref 0), (1, .int (nI x))]) rfl ?_
            refine cv_aload_n C (pc' := 138) rfl (D 75 (137, .aload_n 0, 1) rfl) rfl (j := 1) rfl ?_
            refine cv_iconst C (pc' := 139) rfl (D 76 (138, .iconst 2, 1) rfl) (v := nI 2) (by decide) ?_
            refine cv_put C (pc' := 142) rfl (k0 := 0) (i := 24) (ci := 7) (by decide) rfl rfl (by decide) rfl iw_X7 tyX7 tyX7_ok nmX7 wfX7_164 rfl rfl rfl (D 77 (139, .putfield 164, 3) rfl) ?_
            refine cv_iload_n C (pc' := 143) rfl (D 78 (142, .iload_n 2, 1) rfl) rfl (j := 0) rfl ?_
            exact cv_iret C Rt (by decide) (D 79 (143, .ireturn, 1) rfl) (by have hst : cv_st L x q = none := (by unfold cv_st; rw [if_neg b5, if_neg b13, if_neg b54, if_pos b100, if_neg (by omega)]); exact ⟨by rw [hst]; rfl, (cv_fy_u (cv_fy_r μ) (by decide)), fun q2 h => by rw [hst] at h; cases h⟩)
          · skip
            refine cv_aload_n C (pc' := 112) rfl (D 61 (111, .aload_n 0, 1) rfl) rfl (j := 0) rfl ?_
            refine cv_get C (pc' := 115) rfl (k0 := 0) (i := 24) (ci := 7) (by decide) rfl rfl (by decide) (o := none) rfl iw_X7 wfX7_164 (D 62 (112, .getfield 164, 3) rfl) (v := .int (nI q.2.2.1)) (congrArg Value.int hW.2.2.1) ?_
            refine cv_iconst C (pc' := 116) rfl (D 63 (115, .iconst 1, 1) rfl) (v := nI 1) (by decide) ?_
            refine cv_icmp_neN C (pc' := 119) rfl (by omega) (by omega) (tgt := 135) (D 64 (116, .if_icmp .ne 19, 3) rfl) (by decide) (fun b116 => ?_) (fun b116 => ?_)
            · skip
              refine cv_iconst C (pc' := 136) rfl (D 73 (135, .iconst 0, 1) rfl) (v := nI 0) (by decide) ?_
              refine cv_istore_n C (pc' := 137) rfl (D 74 (136, .istore_n 2, 1) rfl) rfl (by decide) (lv' := [(2, .int (nI 0)), (0, .ref 0), (1, .int (nI x))]) rfl ?_
              refine cv_aload_n C (pc' := 138) rfl (D 75 (137, .aload_n 0, 1) rfl) rfl (j := 1) rfl ?_
              refine cv_iconst C (pc' := 139) rfl (D 76 (138, .iconst 2, 1) rfl) (v := nI 2) (by decide) ?_
              refine cv_put C (pc' := 142) rfl (k0 := 0) (i := 24) (ci := 7) (by decide) rfl rfl (by decide) rfl iw_X7 tyX7 tyX7_ok nmX7 wfX7_164 rfl rfl rfl (D 77 (139, .putfield 164, 3) rfl) ?_
              refine cv_iload_n C (pc' := 143) rfl (D 78 (142, .iload_n 2, 1) rfl) rfl (j := 0) rfl ?_
              exact cv_iret C Rt (by decide) (D 79 (143, .ireturn, 1) rfl) (by have hst : cv_st L x q = none := (by unfold cv_st; rw [if_neg b5, if_neg b13, if_neg b54, if_pos b100, if_neg (by omega)]); exact ⟨by rw [hst]; rfl, (cv_fy_u (cv_fy_r μ) (by decide)), fun q2 h => by rw [hst] at h; cases h⟩)
            · skip
              refine cv_aload_n C (pc' := 120) rfl (D 65 (119, .aload_n 0, 1) rfl) rfl (j := 0) rfl ?_
              refine cv_iconst C (pc' := 121) rfl (D 66 (120, .iconst 2, 1) rfl) (v := nI 2) (by decide) ?_
              refine cv_aload_n C (pc' := 122) rfl (D 67 (121, .aload_n 0, 1) rfl) rfl (j := 0) rfl ?_
              refine cv_get C (pc' := 125) rfl (k0 := 0) (i := 22) (ci := 7) (by decide) rfl rfl (by decide) (o := none) rfl iw_X7 wfX7_167 (D 68 (122, .getfield 167, 3) rfl) (v := .int (nI q.1)) (congrArg Value.int hW.1) ?_
              refine cv_callV C (pc' := 128) rfl (k0 := 0) (ci := 7) (As := [.int (nI 2), .int (nI q.1)]) (rest := []) (idx := 136) (np := 2) (kX7_doesGive L 2 q.1 μ hL hB (by omega) (by omega)) (by decide) rfl rfl rfl (by decide +kernel) rfl wmX7_136 wi_yX7_doesGive ws_yX7_doesGive wn_X7 wc_yX7_doesGive (by decide) (by decide) (D 69 (125, .invokevirtual 136, 3) rfl) (Nat.le_of_ble_eq_true rfl) rfl (fun w9 u9 h9 => ?_)
              rw [h9.1, h9.2]
              show cv_At X _ _ μ 128 _ [.int (cv_b ((L 6 2).testBit q.1))]
              refine cv_if_eqB C (pc' := 131) rfl (tgt := 135) (D 70 (128, .ifCond .eq 7, 3) rfl) (by decide) (fun b128 => ?_) (fun b128 => ?_)
              · skip
                refine cv_iconst C (pc' := 136) rfl (D 73 (135, .iconst 0, 1) rfl) (v := nI 0) (by decide) ?_
                refine cv_istore_n C (pc' := 137) rfl (D 74 (136, .istore_n 2, 1) rfl) rfl (by decide) (lv' := [(2, .int (nI 0)), (0, .ref 0), (1, .int (nI x))]) rfl ?_
                refine cv_aload_n C (pc' := 138) rfl (D 75 (137, .aload_n 0, 1) rfl) rfl (j := 1) rfl ?_
                refine cv_iconst C (pc' := 139) rfl (D 76 (138, .iconst 2, 1) rfl) (v := nI 2) (by decide) ?_
                refine cv_put C (pc' := 142) rfl (k0 := 0) (i := 24) (ci := 7) (by decide) rfl rfl (by decide) rfl iw_X7 tyX7 tyX7_ok nmX7 wfX7_164 rfl rfl rfl (D 77 (139, .putfield 164, 3) rfl) ?_
                refine cv_iload_n C (pc' := 143) rfl (D 78 (142, .iload_n 2, 1) rfl) rfl (j := 0) rfl ?_
                exact cv_iret C Rt (by decide) (D 79 (143, .ireturn, 1) rfl) (by have hst : cv_st L x q = none := (by unfold cv_st; rw [if_neg b5, if_neg b13, if_neg b54, if_pos b100, if_neg (fun h => by rw [h.2.2] at b128; cases b128)]); exact ⟨by rw [hst]; rfl, (cv_fy_u (cv_fy_r μ) (by decide)), fun q2 h => by rw [hst] at h; cases h⟩)
              · skip
                refine cv_iconst C (pc' := 132) rfl (D 71 (131, .iconst 1, 1) rfl) (v := nI 1) (by decide) ?_
                refine cv_goto C (tgt := 136) (D 72 (132, .goto 4, 3) rfl) (by decide) ?_
                refine cv_istore_n C (pc' := 137) rfl (D 74 (136, .istore_n 2, 1) rfl) rfl (by decide) (lv' := [(2, .int (nI 1)), (0, .ref 0), (1, .int (nI x))]) rfl ?_
                refine cv_aload_n C (pc' := 138) rfl (D 75 (137, .aload_n 0, 1) rfl) rfl (j := 1) rfl ?_
                refine cv_iconst C (pc' := 139) rfl (D 76 (138, .iconst 2, 1) rfl) (v := nI 2) (by decide) ?_
                refine cv_put C (pc' := 142) rfl (k0 := 0) (i := 24) (ci := 7) (by decide) rfl rfl (by decide) rfl iw_X7 tyX7 tyX7_ok nmX7 wfX7_164 rfl rfl rfl (D 77 (139, .putfield 164, 3) rfl) ?_
                refine cv_iload_n C (pc' := 143) rfl (D 78 (142, .iload_n 2, 1) rfl) rfl (j := 0) rfl ?_
                exact cv_iret C Rt (by decide) (D 79 (143, .ireturn, 1) rfl) (by have hst : cv_st L x q = some (q.1, q.2.1, 2, q.2.2.2) := (by unfold cv_st; rw [if_neg b5, if_neg b13, if_neg b54, if_pos b100, if_pos ⟨by omega, by omega, b128⟩]); exact ⟨by rw [hst]; rfl, (cv_fy_u (cv_fy_r μ) (by decide)), fun q2 h => by rw [hst] at h; cases h; exact ⟨((cv_u_i (by omega)).trans hW.1), ((cv_u_i (by omega)).trans hW.2.1), cv_u_s, ((cv_u_i (by omega)).trans hW.2.2.2)⟩⟩)
      · skip
        refine cv_aload_n C (pc' := 58) rfl (D 32 (57, .aload_n 0, 1) rfl) rfl (j := 0) rfl ?_
        refine cv_get C (pc' := 61) rfl (k0 := 0) (i := 23) (ci := 7) (by decide) rfl rfl (by decide) (o := none) rfl iw_X7 wfX7_173 (D 33 (58, .getfield 173, 3) rfl) (v := .int (nI q.2.1)) (congrArg Value.int hW.2.1) ?_
        refine cv_iconst C (pc' := 62) rfl (D 34 (61, .iconst 1, 1) rfl) (v := nI 1) (by decide) ?_
        refine cv_icmp_neN C (pc' := 65) rfl (by omega) (by omega) (tgt := 88) (D 35 (62, .if_icmp .ne 26, 3) rfl) (by decide) (fun b62 => ?_) (fun b62 => ?_)
        · skip
          refine cv_iconst C (pc' := 89) rfl (D 47 (88, .iconst 0, 1) rfl) (v := nI 0) (by decide) ?_
          refine cv_istore_n C (pc' := 90) rfl (D 48 (89, .istore_n 2, 1) rfl) rfl (by decide) (lv' := [(2, .int (nI 0)), (0, .ref 0), (1, .int (nI x))]) rfl ?_
          refine cv_aload_n C (pc' := 91) rfl (D 49 (90, .aload_n 0, 1) rfl) rfl (j := 1) rfl ?_
          refine cv_iconst C (pc' := 92) rfl (D 50 (91, .iconst 1, 1) rfl) (v := nI 1) (by decide) ?_
          refine cv_put C (pc' := 95) rfl (k0 := 0) (i := 24) (ci := 7) (by decide) rfl rfl (by decide) rfl iw_X7 tyX7 tyX7_ok nmX7 wfX7_164 rfl rfl rfl (D 51 (92, .putfield 164, 3) rfl) ?_
          refine cv_iload_n C (pc' := 96) rfl (D 52 (95, .iload_n 2, 1) rfl) rfl (j := 0) rfl ?_
          exact cv_iret C Rt (by decide) (D 53 (96, .ireturn, 1) rfl) (by have hst : cv_st L x q = none := (by unfold cv_st; rw [if_neg b5, if_neg b13, if_pos b54, if_neg (by omega)]); exact ⟨by rw [hst]; rfl, (cv_fy_u (cv_fy_r μ) (by decide)), fun q2 h => by rw [hst] at h; cases h⟩)
        · skip
          refine cv_aload_n C (pc' := 66) rfl (D 36 (65, .aload_n 0, 1) rfl) rfl (j := 0) rfl ?_
          refine cv_get C (pc' := 69) rfl (k0 := 0) (i := 24) (ci := 7) (by decide) rfl rfl (by decide) (o := none) rfl iw_X7 wfX7_164 (D 37 (66, .getfield 164, 3) rfl) (v := .int (nI q.2.2.1)) (congrArg Value.int hW.2.2.1) ?_
          refine cv_if_neN C (pc' := 72) rfl (by omega) (tgt := 88) (D 38 (69, .ifCond .ne 19, 3) rfl) (by decide) (fun b69 => ?_) (fun b69 => ?_)
          · skip
            refine cv_iconst C (pc' := 89) rfl (D 47 (88, .iconst 0, 1) rfl) (v := nI 0) (by decide) ?_
            refine cv_istore_n C (pc' := 90) rfl (D 48 (89, .istore_n 2, 1) rfl) rfl (by decide) (lv' := [(2, .int (nI 0)), (0, .ref 0), (1, .int (nI x))]) rfl ?_
            refine cv_aload_n C (pc' := 91) rfl (D 49 (90, .aload_n 0, 1) rfl) rfl (j := 1) rfl ?_
            refine cv_iconst C (pc' := 92) rfl (D 50 (91, .iconst 1, 1) rfl) (v := nI 1) (by decide) ?_
            refine cv_put C (pc' := 95) rfl (k0 := 0) (i := 24) (ci := 7) (by decide) rfl rfl (by decide) rfl iw_X7 tyX7 tyX7_ok nmX7 wfX7_164 rfl rfl rfl (D 51 (92, .putfield 164, 3) rfl) ?_
            refine cv_iload_n C (pc' := 96) rfl (D 52 (95, .iload_n 2, 1) rfl) rfl (j := 0) rfl ?_
            exact cv_iret C Rt (by decide) (D 53 (96, .ireturn, 1) rfl) (by have hst : cv_st L x q = none := (by unfold cv_st; rw [if_neg b5, if_neg b13, if_pos b54, if_neg (by omega)]); exact ⟨by rw [hst]; rfl, (cv_fy_u (cv_fy_r μ) (by decide)), fun q2 h => by rw [hst] at h; cases h⟩)
          · skip
            refine cv_aload_n C (pc' := 73) rfl (D 39 (72, .aload_n 0, 1) rfl) rfl (j := 0) rfl ?_
            refine cv_iconst C (pc' := 74) rfl (D 40 (73, .iconst 1, 1) rfl) (v := nI 1) (by decide) ?_
            refine cv_aload_n C (pc' := 75) rfl (D 41 (74, .aload_n 0, 1) rfl) rfl (j := 0) rfl ?_
            refine cv_get C (pc' := 78) rfl (k0 := 0) (i := 22) (ci := 7) (by decide) rfl rfl (by decide) (o := none) rfl iw_X7 wfX7_167 (D 42 (75, .getfield 167, 3) rfl) (v := .int (nI q.1)) (congrArg Value.int hW.1) ?_
            refine cv_callV C (pc' := 81) rfl (k0 := 0) (ci := 7) (As := [.int (nI 1), .int (nI q.1)]) (rest := []) (idx := 136) (np := 2) (kX7_doesGive L 1 q.1 μ hL hB (by omega) (by omega)) (by decide) rfl rfl rfl (by decide +kernel) rfl wmX7_136 wi_yX7_doesGive ws_yX7_doesGive wn_X7 wc_yX7_doesGive (by decide) (by decide) (D 43 (78, .invokevirtual 136, 3) rfl) (Nat.le_of_ble_eq_true rfl) rfl (fun w9 u9 h9 => ?_)
            rw [h9.1, h9.2]
            show cv_At X _ _ μ 81 _ [.int (cv_b ((L 6 1).testBit q.1))]
            refine cv_if_eqB C (pc' := 84) rfl (tgt := 88) (D 44 (81, .ifCond .eq 7, 3) rfl) (by decide) (fun b81 => ?_) (fun b81 => ?_)
            · skip
              refine cv_iconst C (pc' := 89) rfl (D 47 (88, .iconst 0, 1) rfl) (v := nI 0) (by decide) ?_
              refine cv_istore_n C (pc' := 90) rfl (D 48 (89, .istore_n 2, 1) rfl) rfl (by decide) (lv' := [(2, .int (nI 0)), (0, .ref 0), (1, .int (nI x))]) rfl ?_
              refine cv_aload_n C (pc' := 91) rfl (D 49 (90, .aload_n 0, 1) rfl) rfl (j := 1) rfl ?_
              refine cv_iconst C (pc' := 92) rfl (D 50 (91, .iconst 1, 1) rfl) (v := nI 1) (by decide) ?_
              refine cv_put C (pc' := 95) rfl (k0 := 0) (i := 24) (ci := 7) (by decide) rfl rfl (by decide) rfl iw_X7 tyX7 tyX7_ok nmX7 wfX7_164 rfl rfl rfl (D 51 (92, .putfield 164, 3) rfl) ?_
              refine cv_iload_n C (pc' := 96) rfl (D 52 (95, .iload_n 2, 1) rfl) rfl (j := 0) rfl ?_
              exact cv_iret C Rt (by decide) (D 53 (96, .ireturn, 1) rfl) (by have hst : cv_st L x q = none := (by unfold cv_st; rw [if_neg b5, if_neg b13, if_pos b54, if_neg (fun h => by rw [h.2.2] at b81; cases b81)]); exact ⟨by rw [hst]; rfl, (cv_fy_u (cv_fy_r μ) (by decide)), fun q2 h => by rw [hst] at h; cases h⟩)
            · skip
              refine cv_iconst C (pc' := 85) rfl (D 45 (84, .iconst 1, 1) rfl) (v := nI 1) (by decide) ?_
              refine cv_goto C (tgt := 89) (D 46 (85, .goto 4, 3) rfl) (by decide) ?_
              refine cv_istore_n C (pc' := 90) rfl (D 48 (89, .istore_n 2, 1) rfl) rfl (by decide) (lv' := [(2, .int (nI 1)), (0, .ref 0), (1, .int (nI x))]) rfl ?_
              refine cv_aload_n C (pc' := 91) rfl (D 49 (90, .aload_n 0, 1) rfl) rfl (j := 1) rfl ?_
              refine cv_iconst C (pc' := 92) rfl (D 50 (91, .iconst 1, 1) rfl) (v := nI 1) (by decide) ?_
              refine cv_put C (pc' := 95) rfl (k0 := 0) (i := 24) (ci := 7) (by decide) rfl rfl (by decide) rfl iw_X7 tyX7 tyX7_ok nmX7 wfX7_164 rfl rfl rfl (D 51 (92, .putfield 164, 3) rfl) ?_
              refine cv_iload_n C (pc' := 96) rfl (D 52 (95, .iload_n 2, 1) rfl) rfl (j := 0) rfl ?_
              exact cv_iret C Rt (by decide) (D 53 (96, .ireturn, 1) rfl) (by have hst : cv_st L x q = some (q.1, q.2.1, 1, q.2.2.2) := (by unfold cv_st; rw [if_neg b5, if_neg b13, if_pos b54, if_pos ⟨by omega, by omega, b81⟩]); exact ⟨by rw [hst]; rfl, (cv_fy_u (cv_fy_r μ) (by decide)), fun q2 h => by rw [hst] at h; cases h; exact ⟨((cv_u_i (by omega)).trans hW.1), ((cv_u_i (by omega)).trans hW.2.1), cv_u_s, ((cv_u_i (by omega)).trans hW.2.2.2)⟩⟩)
    · skip
      refine cv_aload_n C (pc' := 17) rfl (D 9 (16, .aload_n 0, 1) rfl) rfl (j := 0) rfl ?_
      refine cv_dup C (pc' := 18) rfl (D 10 (17, .dup, 1) rfl) rfl ?_
      refine cv_get C (pc' := 21) rfl (k0 := 0) (i := 22) (ci := 7) (by decide) rfl rfl (by decide) (o := none) rfl iw_X7 wfX7_167 (D 11 (18, .getfield 167, 3) rfl) (v := .int (nI q.1)) (congrArg Value.int hW.1) ?_
      refine cv_iconst C (pc' := 22) rfl (D 12 (21, .iconst 1, 1) rfl) (v := nI 1) (by decide) ?_
      refine cv_iaddN C (pc' := 23) rfl (D 13 (22, .iadd, 1) rfl) ?_
      refine cv_put C (pc' := 26) rfl (k0 := 0) (i := 22) (ci := 7) (by decide) rfl rfl (by decide) rfl iw_X7 tyX7 tyX7_ok nmX7 wfX7_167 rfl rfl rfl (D 14 (23, .putfield 167, 3) rfl) ?_
      refine cv_aload_n C (pc' := 27) rfl (D 15 (26, .aload_n 0, 1) rfl) rfl (j := 0) rfl ?_
      refine cv_dup C (pc' := 28) rfl (D 16 (27, .dup, 1) rfl) rfl ?_
      refine cv_get C (pc' := 31) rfl (k0 := 0) (i := 25) (ci := 7) (by decide) rfl rfl (by decide) (o := none) rfl iw_X7 wfX7_170 (D 17 (28, .getfield 170, 3) rfl) (v := .int (nI q.2.2.2)) (congrArg Value.int ((cv_u_i (by omega)).trans hW.2.2.2)) ?_
      refine cv_iconst C (pc' := 32) rfl (D 18 (31, .iconst 1, 1) rfl) (v := nI 1) (by decide) ?_
      refine cv_iaddN C (pc' := 33) rfl (D 19 (32, .iadd, 1) rfl) ?_
      refine cv_put C (pc' := 36) rfl (k0 := 0) (i := 25) (ci := 7) (by decide) rfl rfl (by decide) rfl iw_X7 tyX7 tyX7_ok nmX7 wfX7_170 rfl rfl rfl (D 20 (33, .putfield 170, 3) rfl) ?_
      refine cv_aload_n C (pc' := 37) rfl (D 21 (36, .aload_n 0, 1) rfl) rfl (j := 0) rfl ?_
      refine cv_get C (pc' := 40) rfl (k0 := 0) (i := 22) (ci := 7) (by decide) rfl rfl (by decide) (o := none) rfl iw_X7 wfX7_167 (D 22 (37, .getfield 167, 3) rfl) (v := .int (nI (q.1 + 1))) (congrArg Value.int ((cv_u_i (by omega)).trans cv_u_s)) ?_
      refine cv_bipush C (pc' := 42) rfl (D 23 (40, .bipush 8, 2) rfl) (v := nI 8) (by decide) ?_
      refine cv_icmp_geN C (pc' := 45) rfl (by omega) (by omega) (tgt := 49) (D 24 (42, .if_icmp .ge 7, 3) rfl) (by decide) (fun b42 => ?_) (fun b42 => ?_)
      · skip
        refine cv_iconst C (pc' := 50) rfl (D 27 (49, .iconst 0, 1) rfl) (v := nI 0) (by decide) ?_
        exact cv_iret C Rt (by decide) (D 28 (50, .ireturn, 1) rfl) (by have hst : cv_st L x q = none := (by unfold cv_st; rw [if_neg b5, if_pos b13, if_neg (by omega)]); exact ⟨by rw [hst]; rfl, (cv_fy_u (cv_fy_u (cv_fy_r μ) (by decide)) (by decide)), fun q2 h => by rw [hst] at h; cases h⟩)
      · skip
        refine cv_iconst C (pc' := 46) rfl (D 25 (45, .iconst 1, 1) rfl) (v := nI 1) (by decide) ?_
        refine cv_goto C (tgt := 50) (D 26 (46, .goto 4, 3) rfl) (by decide) ?_
        exact cv_iret C Rt (by decide) (D 28 (50, .ireturn, 1) rfl) (by have hst : cv_st L x q = some (q.1 + 1, q.2.1, q.2.2.1, q.2.2.2 + 1) := (by unfold cv_st; rw [if_neg b5, if_pos b13, if_pos (by omega)]); exact ⟨by rw [hst]; rfl, (cv_fy_u (cv_fy_u (cv_fy_r μ) (by decide)) (by decide)), fun q2 h => by rw [hst] at h; cases h; exact ⟨((cv_u_i (by omega)).trans cv_u_s), ((cv_u_i (by omega)).trans ((cv_u_i (by omega)).trans hW.2.1)), ((cv_u_i (by omega)).trans ((cv_u_i (by omega)).trans hW.2.2.1)), cv_u_s⟩⟩)
  · skip
    refine cv_iconst C (pc' := 9) rfl (D 4 (8, .iconst 0, 1) rfl) (v := nI 0) (by decide) ?_
    exact cv_iret C Rt (by decide) (D 5 (9, .ireturn, 1) rfl) (by have hst : cv_st L x q = none := (by unfold cv_st; rw [if_pos b5]); exact ⟨by rw [hst]; rfl, (cv_fy_r μ), fun q2 h => by rw [hst] at h; cases h⟩)

set_option maxHeartbeats 4000000 in
set_option maxRecDepth 100000 in
theorem kX7_wayOf (L : cv_L) (g : Nat → Int32) (k i n d v : Nat) (μ : cv_St) (hL : cv_LM L μ) (hB : cv_LB L) (hM : μ 0 13 = -9) (hk : k < 4) (hin : i + n ≤ 60) (hd : d < 8) (hv : v < 5) (hf : ∀ m, m < 60 → μ 3 (60 * k + m) = g m) (hrs : ∀ m, m < n → cv_r1 L (g (i + m)) = 0) : cv_Ct yX7_wayOf cX7_wayOf 8 (some .int) 2 0 0 17 cv_shM [.ref 0, .int (nI d), .int (nI (60 * k + i)), .int (nI n), .int (nI v)] μ (fun w u => w = some (.int (cv_ow (cv_wr L g i d n) ((cv_ru L g i d n).getD (0, 0, 0, 0)) v)) ∧ cv_fy μ u) := by
  refine cv_enter (own := RX7) (by decide) rfl (Nat.le_of_ble_eq_true rfl) ?_
  intro X a C Rt hRm
  have D := @cv_dec _ _ dkX7_wayOf
  show cv_At X _ _ μ 0 [(0, .ref 0), (1, .int (nI d)), (2, .int (nI (60 * k + i))), (3, .int (nI n)), (4, .int (nI v))] []
  refine cv_aload_n C (pc' := 1) rfl (D 0 (0, .aload_n 0, 1) rfl) rfl (j := 0) rfl ?_
  refine cv_iload_n C (pc' := 2) rfl (D 1 (1, .iload_n 1, 1) rfl) rfl (j := 1) rfl ?_
  refine cv_put C (pc' := 5) rfl (k0 := 0) (i := 22) (ci := 7) (by decide) rfl rfl (by decide) rfl iw_X7 tyX7 tyX7_ok nmX7 wfX7_167 rfl rfl rfl (D 2 (2, .putfield 167, 3) rfl) ?_
  refine cv_aload_n C (pc' := 6) rfl (D 3 (5, .aload_n 0, 1) rfl) rfl (j := 0) rfl ?_
  refine cv_iconst C (pc' := 7) rfl (D 4 (6, .iconst 0, 1) rfl) (v := nI 0) (by decide) ?_
  refine cv_put C (pc' := 10) rfl (k0 := 0) (i := 23) (ci := 7) (by decide) rfl rfl (by decide) rfl iw_X7 tyX7 tyX7_ok nmX7 wfX7_173 rfl rfl rfl (D 5 (7, .putfield 173, 3) rfl) ?_
  refine cv_aload_n C (pc' := 11) rfl (D 6 (10, .aload_n 0, 1) rfl) rfl (j := 0) rfl ?_
  refine cv_iconst C (pc' := 12) rfl (D 7 (11, .iconst 0, 1) rfl) (v := nI 0) (by decide) ?_
  refine cv_put C (pc' := 15) rfl (k0 := 0) (i := 24) (ci := 7) (by decide) rfl rfl (by decide) rfl iw_X7 tyX7 tyX7_ok nmX7 wfX7_164 rfl rfl rfl (D 8 (12, .putfield 164, 3) rfl) ?_
  refine cv_aload_n C (pc' := 16) rfl (D 9 (15, .aload_n 0, 1) rfl) rfl (j := 0) rfl ?_
  refine cv_iconst C (pc' := 17) rfl (D 10 (16, .iconst 0, 1) rfl) (v := nI 0) (by decide) ?_
  refine cv_put C (pc' := 20) rfl (k0 := 0) (i := 25) (ci := 7) (by decide) rfl rfl (by decide) rfl iw_X7 tyX7 tyX7_ok nmX7 wfX7_170 rfl rfl rfl (D 11 (17, .putfield 170, 3) rfl) ?_
  refine cv_bipush C (pc' := 22) rfl (D 12 (20, .bipush (-9), 2) rfl) (v := -9) (by decide) ?_
  refine cv_istore C (pc' := 24) rfl (D 13 (22, .istore 5, 2) rfl) (by decide) (lv' := [(5, .int (-9)), (0, .ref 0), (1, .int (nI d)), (2, .int (nI (60 * k + i))), (3, .int (nI n)), (4, .int (nI v))]) rfl ?_
  refine cv_iconst C (pc' := 25) rfl (D 14 (24, .iconst 0, 1) rfl) (v := nI 0) (by decide) ?_
  refine cv_istore C (pc' := 27) rfl (D 15 (25, .istore 6, 2) rfl) (by decide) (lv' := [(6, .int (nI 0)), (5, .int (-9)), (0, .ref 0), (1, .int (nI d)), (2, .int (nI (60 * k + i))), (3, .int (nI n)), (4, .int (nI v))]) rfl ?_
  have LP27 : ∀ (r : Nat) (m : Nat) (q : cv_Q) (τ : cv_St), (m + r = n) → (cv_ru L g i d m = some q) → (cv_WM q τ) → (cv_fy μ τ) → (m = 0 ∨ (L 6 0).testBit d = true) → cv_At X (17, cv_shM, 0, 0, a) 8 τ 27 [(6, .int (nI m)), (5, .int (-9)), (0, .ref 0), (1, .int (nI d)), (2, .int (nI (60 * k + i))), (3, .int (nI n)), (4, .int (nI v))] [] := by
    intro r
    induction r with
    | zero =>
      intro m q τ hr hq hWτ hFτ hk0
      have hLτ := cv_LM_k (cv_fy_m hFτ) hL
      have hWB := cv_ru_b hB hd hrs m (by omega) q hq
      refine cv_iload C (pc' := 29) rfl (D 16 (27, .iload 6, 2) rfl) (j := 0) rfl ?_
      refine cv_iload_n C (pc' := 30) rfl (D 17 (29, .iload_n 3, 1) rfl) rfl (j := 5) rfl ?_
      refine cv_icmp_geN C (pc' := 33) rfl (by omega) (by omega) (tgt := 97) (D 18 (30, .if_icmp .ge 67, 3) rfl) (by decide) (fun b30 => ?_) (fun b30 => ?_)
      · skip
        refine cv_iload C (pc' := 99) rfl (D 50 (97, .iload 4, 2) rfl) (j := 6) rfl ?_
        refine cv_iconst C (pc' := 100) rfl (D 51 (99, .iconst 1, 1) rfl) (v := nI 1) (by decide) ?_
        refine cv_icmp_neN C (pc' := 103) rfl (by omega) (by omega) (tgt := 106) (D 52 (100, .if_icmp .ne 6, 3) rfl) (by decide) (fun b100 => ?_) (fun b100 => ?_)
        · skip
          refine cv_iload C (pc' := 108) rfl (D 55 (106, .iload 5, 2) rfl) (j := 1) rfl ?_
          refine cv_bipush C (pc' := 110) rfl (D 56 (108, .bipush (-9), 2) rfl) (v := -9) (by decide) ?_
          refine cv_icmp_eq C (pc' := 113) rfl (tgt := 119) (D 57 (110, .if_icmp .eq 9, 3) rfl) (by decide) (fun _ => ?_) (fun h => absurd h (by decide))
          refine cv_iload C (pc' := 121) rfl (D 62 (119, .iload 4, 2) rfl) (j := 6) rfl ?_
          refine cv_if_neN C (pc' := 124) rfl (by omega) (tgt := 131) (D 63 (121, .ifCond .ne 10, 3) rfl) (by decide) (fun b121 => ?_) (fun b121 => ?_)
          · skip
            refine cv_iload C (pc' := 133) rfl (D 67 (131, .iload 4, 2) rfl) (j := 6) rfl ?_
            refine cv_iconst C (pc' := 134) rfl (D 68 (133, .iconst 2, 1) rfl) (v := nI 2) (by decide) ?_
            refine cv_icmp_neN C (pc' := 137) rfl (by omega) (by omega) (tgt := 144) (D 69 (134, .if_icmp .ne 10, 3) rfl) (by decide) (fun b134 => ?_) (fun b134 => ?_)
            · skip
              refine cv_iload C (pc' := 146) rfl (D 73 (144, .iload 4, 2) rfl) (j := 6) rfl ?_
              refine cv_iconst C (pc' := 147) rfl (D 74 (146, .iconst 3, 1) rfl) (v := nI 3) (by decide) ?_
              refine cv_icmp_neN C (pc' := 150) rfl (by omega) (by omega) (tgt := 157) (D 75 (147, .if_icmp .ne 10, 3) rfl) (by decide) (fun b147 => ?_) (fun b147 => ?_)
              · skip
                refine cv_aload_n C (pc' := 158) rfl (D 79 (157, .aload_n 0, 1) rfl) rfl (j := 2) rfl ?_
                refine cv_get C (pc' := 161) rfl (k0 := 0) (i := 24) (ci := 7) (by decide) rfl rfl (by decide) (o := none) rfl iw_X7 wfX7_164 (D 80 (158, .getfield 164, 3) rfl) (v := .int (nI q.2.2.1)) (congrArg Value.int hWτ.2.2.1) ?_
                exact cv_iret C Rt rfl (D 81 (161, .ireturn, 1) rfl) (by have hwr : cv_wr L g i d n = none := cv_wr_none (by rcases hk0 with h | h; exact Or.inl (by omega); exact Or.inr h) (q := q) (by rw [show n = m by omega]; exact hq); have hru : cv_ru L g i d n = some q := (by rw [show n = m by omega]; exact hq); exact ⟨congrArg (fun z => some (Value.int z)) (by rw [hwr, hru]; unfold cv_ow; rw [if_neg b100]; dsimp only; rw [if_neg (by omega), if_neg (by omega), if_neg (by omega)]; try rfl), hFτ⟩)
              · skip
                refine cv_aload_n C (pc' := 151) rfl (D 76 (150, .aload_n 0, 1) rfl) rfl (j := 2) rfl ?_
                refine cv_get C (pc' := 154) rfl (k0 := 0) (i := 23) (ci := 7) (by decide) rfl rfl (by decide) (o := none) rfl iw_X7 wfX7_173 (D 77 (151, .getfield 173, 3) rfl) (v := .int (nI q.2.1)) (congrArg Value.int hWτ.2.1) ?_
                refine cv_goto C (tgt := 161) (D 78 (154, .goto 7, 3) rfl) (by decide) ?_
                exact cv_iret C Rt rfl (D 81 (161, .ireturn, 1) rfl) (by have hwr : cv_wr L g i d n = none := cv_wr_none (by rcases hk0 with h | h; exact Or.inl (by omega); exact Or.inr h) (q := q) (by rw [show n = m by omega]; exact hq); have hru : cv_ru L g i d n = some q := (by rw [show n = m by omega]; exact hq); exact ⟨congrArg (fun z => some (Value.int z)) (by rw [hwr, hru]; unfold cv_ow; rw [if_neg b100]; dsimp only; rw [if_neg (by omega), if_neg (by omega), if_pos (by omega)]; try rfl), hFτ⟩)
            · skip
              refine cv_aload_n C (pc' := 138) rfl (D 70 (137, .aload_n 0, 1) rfl) rfl (j := 2) rfl ?_
              refine cv_get C (pc' := 141) rfl (k0 := 0) (i := 25) (ci := 7) (by decide) rfl rfl (by decide) (o := none) rfl iw_X7 wfX7_170 (D 71 (138, .getfield 170, 3) rfl) (v := .int (nI q.2.2.2)) (congrArg Value.int hWτ.2.2.2) ?_
              refine cv_goto C (tgt := 161) (D 72 (141, .goto 20, 3) rfl) (by decide) ?_
              exact cv_iret C Rt rfl (D 81 (161, .ireturn, 1) rfl) (by have hwr : cv_wr L g i d n = none := cv_wr_none (by rcases hk0 with h | h; exact Or.inl (by omega); exact Or.inr h) (q := q) (by rw [show n = m by omega]; exact hq); have hru : cv_ru L g i d n = some q := (by rw [show n = m by omega]; exact hq); exact ⟨congrArg (fun z => some (Value.int z)) (by rw [hwr, hru]; unfold cv_ow; rw [if_neg b100]; dsimp only; rw [if_neg (by omega), if_pos (by omega)]; try rfl), hFτ⟩)
          · skip
            refine cv_aload_n C (pc' := 125) rfl (D 64 (124, .aload_n 0, 1) rfl) rfl (j := 2) rfl ?_
            refine cv_get C (pc' := 128) rfl (k0 := 0) (i := 22) (ci := 7) (by decide) rfl rfl (by decide) (o := none) rfl iw_X7 wfX7_167 (D 65 (125, .getfield 167, 3) rfl) (v := .int (nI q.1)) (congrArg Value.int hWτ.1) ?_
            refine cv_goto C (tgt := 161) (D 66 (128, .goto 33, 3) rfl) (by decide) ?_
            exact cv_iret C Rt rfl (D 81 (161, .ireturn, 1) rfl) (by have hwr : cv_wr L g i d n = none := cv_wr_none (by rcases hk0 with h | h; exact Or.inl (by omega); exact Or.inr h) (q := q) (by rw [show n = m by omega]; exact hq); have hru : cv_ru L g i d n = some q := (by rw [show n = m by omega]; exact hq); exact ⟨congrArg (fun z => some (Value.int z)) (by rw [hwr, hru]; unfold cv_ow; rw [if_neg b100]; dsimp only; rw [if_pos (by omega)]; try rfl), hFτ⟩)
        · skip
          refine cv_iload C (pc' := 105) rfl (D 53 (103, .iload 5, 2) rfl) (j := 1) rfl ?_
          exact cv_iret C Rt rfl (D 54 (105, .ireturn, 1) rfl) (by have hwr : cv_wr L g i d n = none := cv_wr_none (by rcases hk0 with h | h; exact Or.inl (by omega); exact Or.inr h) (q := q) (by rw [show n = m by omega]; exact hq); have hru : cv_ru L g i d n = some q := (by rw [show n = m by omega]; exact hq); exact ⟨congrArg (fun z => some (Value.int z)) (by rw [hwr, hru]; unfold cv_ow; rw [if_pos b100]; rfl), hFτ⟩)
      · skip
        omega
    | succ r ih27 =>
      intro m q τ hr hq hWτ hFτ hk0
      have hLτ := cv_LM_k (cv_fy_m hFτ) hL
      have hMτ : τ 0 13 = -9 := by rw [hFτ.2 13 (by decide)]; exact hM
      obtain ⟨x, hx, ex, hx6⟩ := cv_r1_of hB (hrs m (by omega))
      have hWB := cv_ru_b hB hd hrs m (by omega) q hq
      refine cv_iload C (pc' := 29) rfl (D 16 (27, .iload 6, 2) rfl) (j := 0) rfl ?_
      refine cv_iload_n C (pc' := 30) rfl (D 17 (29, .iload_n 3, 1) rfl) rfl (j := 5) rfl ?_
      refine cv_icmp_geN C (pc' := 33) rfl (by omega) (by omega) (tgt := 97) (D 18 (30, .if_icmp .ge 67, 3) rfl) (by decide) (fun b30 => ?_) (fun b30 => ?_)
      · skip
        omega
      · skip
        refine cv_iload C (pc' := 35) rfl (D 19 (33, .iload 5, 2) rfl) (j := 1) rfl ?_
        refine cv_bipush C (pc' := 37) rfl (D 20 (35, .bipush (-9), 2) rfl) (v := -9) (by decide) ?_
        refine cv_icmp_ne C (pc' := 40) rfl (tgt := 97) (D 21 (37, .if_icmp .ne 60, 3) rfl) (by decide) (fun h => absurd h (by decide)) (fun _ => ?_)
        refine cv_iload C (pc' := 42) rfl (D 22 (40, .iload 6, 2) rfl) (j := 0) rfl ?_
        refine cv_if_gt C (pc' := 45) rfl (tgt := 54) (D 23 (42, .ifCond .gt 12, 3) rfl) (by decide) (fun b42 => ?_) (fun b42 => ?_)
        · skip
          have hb : (L 6 0).testBit d = true := by rcases hk0 with h | h; rw [h] at b42; exact absurd b42 (by decide); exact h
          refine cv_iconst C (pc' := 55) rfl (D 29 (54, .iconst 1, 1) rfl) (v := nI 1) (by decide) ?_
          refine cv_goto C (tgt := 59) (D 30 (55, .goto 4, 3) rfl) (by decide) ?_
          refine cv_istore C (pc' := 61) rfl (D 32 (59, .istore 7, 2) rfl) (by decide) (lv' := [(7, .int (nI 1)), (6, .int (nI m)), (5, .int (-9)), (0, .ref 0), (1, .int (nI d)), (2, .int (nI (60 * k + i))), (3, .int (nI n)), (4, .int (nI v))]) rfl ?_
          refine cv_iload C (pc' := 63) rfl (D 33 (61, .iload 7, 2) rfl) (j := 0) rfl ?_
          refine cv_if_eq C (pc' := 66) rfl (tgt := 87) (D 34 (63, .ifCond .eq 24, 3) rfl) (by decide) (fun h => absurd h (by decide)) (fun _ => ?_)
          refine cv_aload_n C (pc' := 67) rfl (D 35 (66, .aload_n 0, 1) rfl) rfl (j := 3) rfl ?_
          refine cv_aload_n C (pc' := 68) rfl (D 36 (67, .aload_n 0, 1) rfl) rfl (j := 3) rfl ?_
          refine cv_get C (pc' := 71) rfl (k0 := 0) (i := 4) (ci := 7) (by decide) rfl rfl (by decide) (o := some 3) rfl iw_X7 wfX7_16 (D 37 (68, .getfield 16, 3) rfl) rfl ?_
          refine cv_iload_n C (pc' := 72) rfl (D 38 (71, .iload_n 2, 1) rfl) rfl (j := 5) rfl ?_
          refine cv_iload C (pc' := 74) rfl (D 39 (72, .iload 6, 2) rfl) (j := 1) rfl ?_
          refine cv_iaddN C (pc' := 75) rfl (D 40 (74, .iadd, 1) rfl) ?_
          refine cv_iald C (pc' := 76) rfl (k0 := 3) (j := (60 * k + i) + m) (by decide) rfl rfl (by omega) (by decide) (D 41 (75, .iaload, 1) rfl) (v := nI x) (by rw [hFτ.1 3 (by decide), Nat.add_assoc, hf _ (by omega)]; exact ex) ?_
          refine cv_callV C (pc' := 79) rfl (k0 := 0) (ci := 7) (As := [.int (nI x)]) (rest := []) (idx := 179) (np := 1) (kX7_goStep L q x τ hLτ hB hMτ hWτ hWB hx6 hx) (by decide) rfl rfl rfl (by decide +kernel) rfl wmX7_179 wi_yX7_goStep ws_yX7_goStep wn_X7 wc_yX7_goStep (by decide) (by decide) (D 42 (76, .invokevirtual 179, 3) rfl) (Nat.le_of_ble_eq_true rfl) rfl (fun w76 u76 h76 => ?_)
          obtain ⟨e1, e2, e3⟩ := h76
          rw [e1]
          show cv_At X _ _ u76 79 _ [.int (cv_b ((cv_st L x q).isSome))]
          refine cv_if_eqB C (pc' := 82) rfl (tgt := 87) (D 43 (79, .ifCond .eq 8, 3) rfl) (by decide) (fun b79 => ?_) (fun b79 => ?_)
          · skip
            have hwr : cv_wr L g i d n = some m := cv_wr_some hb (by omega) hq (by rw [cv_nt, ex, nI_clamp (by omega)]; cases hs : cv_st L x q with | none => rfl | some q2 => rw [hs] at b79; cases b79)
            refine cv_iload C (pc' := 89) rfl (D 46 (87, .iload 6, 2) rfl) (j := 1) rfl ?_
            refine cv_istore C (pc' := 91) rfl (D 47 (89, .istore 5, 2) rfl) (by decide) (lv' := [(5, .int (nI m)), (7, .int (nI 1)), (6, .int (nI m)), (0, .ref 0), (1, .int (nI d)), (2, .int (nI (60 * k + i))), (3, .int (nI n)), (4, .int (nI v))]) rfl ?_
            refine cv_iincN C (pc' := 94) rfl (D 48 (91, .iinc 6 1, 3) rfl) (j := 2) rfl (by decide) (lv' := [(6, .int (nI (m + 1))), (5, .int (nI m)), (7, .int (nI 1)), (0, .ref 0), (1, .int (nI d)), (2, .int (nI (60 * k + i))), (3, .int (nI n)), (4, .int (nI v))]) rfl ?_
            refine cv_goto C (tgt := 27) (D 49 (94, .goto (-67), 3) rfl) (by decide) ?_
            refine cv_iload C (pc' := 29) rfl (D 16 (27, .iload 6, 2) rfl) (j := 0) rfl ?_
            refine cv_iload_n C (pc' := 30) rfl (D 17 (29, .iload_n 3, 1) rfl) rfl (j := 6) rfl ?_
            refine cv_icmp_geN C (pc' := 33) rfl (by omega) (by omega) (tgt := 97) (D 18 (30, .if_icmp .ge 67, 3) rfl) (by decide) (fun b30 => ?_) (fun b30 => ?_)
            · skip
              refine cv_iload C (pc' := 99) rfl (D 50 (97, .iload 4, 2) rfl) (j := 7) rfl ?_
              refine cv_iconst C (pc' := 100) rfl (D 51 (99, .iconst 1, 1) rfl) (v := nI 1) (by decide) ?_
              refine cv_icmp_neN C (pc' := 103) rfl (by omega) (by omega) (tgt := 106) (D 52 (100, .if_icmp .ne 6, 3) rfl) (by decide) (fun b100 => ?_) (fun b100 => ?_)
              · skip
                refine cv_iload C (pc' := 108) rfl (D 55 (106, .iload 5, 2) rfl) (j := 1) rfl ?_
                refine cv_bipush C (pc' := 110) rfl (D 56 (108, .bipush (-9), 2) rfl) (v := -9) (by decide) ?_
                refine cv_icmp_eq C (pc' := 113) rfl (tgt := 119) (D 57 (110, .if_icmp .eq 9, 3) rfl) (by decide) (fun b110 => ?_) (fun b110 => ?_)
                · skip
                  exact absurd b110 (cv_m9 (by omega))
                · skip
                  refine cv_bipush C (pc' := 115) rfl (D 58 (113, .bipush (-100), 2) rfl) (v := -100) (by decide) ?_
                  refine cv_iload C (pc' := 117) rfl (D 59 (115, .iload 5, 2) rfl) (j := 1) rfl ?_
                  refine cv_isub C (pc' := 118) rfl (D 60 (117, .isub, 1) rfl) ?_
                  exact cv_iret C Rt rfl (D 61 (118, .ireturn, 1) rfl) ⟨congrArg (fun z => some (Value.int z)) (by rw [hwr]; unfold cv_ow; rw [if_neg b100]), (cv_fy_t hFτ e2)⟩
              · skip
                refine cv_iload C (pc' := 105) rfl (D 53 (103, .iload 5, 2) rfl) (j := 1) rfl ?_
                exact cv_iret C Rt rfl (D 54 (105, .ireturn, 1) rfl) ⟨congrArg (fun z => some (Value.int z)) (by rw [hwr]; unfold cv_ow; rw [if_pos b100]; rfl), (cv_fy_t hFτ e2)⟩
            · skip
              refine cv_iload C (pc' := 35) rfl (D 19 (33, .iload 5, 2) rfl) (j := 1) rfl ?_
              refine cv_bipush C (pc' := 37) rfl (D 20 (35, .bipush (-9), 2) rfl) (v := -9) (by decide) ?_
              refine cv_icmp_ne C (pc' := 40) rfl (tgt := 97) (D 21 (37, .if_icmp .ne 60, 3) rfl) (by decide) (fun b37 => ?_) (fun b37 => ?_)
              · skip
                refine cv_iload C (pc' := 99) rfl (D 50 (97, .iload 4, 2) rfl) (j := 7) rfl ?_
                refine cv_iconst C (pc' := 100) rfl (D 51 (99, .iconst 1, 1) rfl) (v := nI 1) (by decide) ?_
                refine cv_icmp_neN C (pc' := 103) rfl (by omega) (by omega) (tgt := 106) (D 52 (100, .if_icmp .ne 6, 3) rfl) (by decide) (fun b100 => ?_) (fun b100 => ?_)
                · skip
                  refine cv_iload C (pc' := 108) rfl (D 55 (106, .iload 5, 2) rfl) (j := 1) rfl ?_
                  refine cv_bipush C (pc' := 110) rfl (D 56 (108, .bipush (-9), 2) rfl) (v := -9) (by decide) ?_
                  refine cv_icmp_eq C (pc' := 113) rfl (tgt := 119) (D 57 (110, .if_icmp .eq 9, 3) rfl) (by decide) (fun b110 => ?_) (fun b110 => ?_)
                  · skip
                    exact absurd b110 (cv_m9 (by omega))
                  · skip
                    refine cv_bipush C (pc' := 115) rfl (D 58 (113, .bipush (-100), 2) rfl) (v := -100) (by decide) ?_
                    refine cv_iload C (pc' := 117) rfl (D 59 (115, .iload 5, 2) rfl) (j := 1) rfl ?_
                    refine cv_isub C (pc' := 118) rfl (D 60 (117, .isub, 1) rfl) ?_
                    exact cv_iret C Rt rfl (D 61 (118, .ireturn, 1) rfl) ⟨congrArg (fun z => some (Value.int z)) (by rw [hwr]; unfold cv_ow; rw [if_neg b100]), (cv_fy_t hFτ e2)⟩
                · skip
                  refine cv_iload C (pc' := 105) rfl (D 53 (103, .iload 5, 2) rfl) (j := 1) rfl ?_
                  exact cv_iret C Rt rfl (D 54 (105, .ireturn, 1) rfl) ⟨congrArg (fun z => some (Value.int z)) (by rw [hwr]; unfold cv_ow; rw [if_pos b100]; rfl), (cv_fy_t hFτ e2)⟩
              · skip
                exact absurd b37 (cv_m9 (by omega))
          · skip
            obtain ⟨q2, hq2⟩ : ∃ q2, cv_st L x q = some q2 := Option.isSome_iff_exists.mp b79
            refine cv_bipush C (pc' := 84) rfl (D 44 (82, .bipush (-9), 2) rfl) (v := -9) (by decide) ?_
            refine cv_goto C (tgt := 89) (D 45 (84, .goto 5, 3) rfl) (by decide) ?_
            refine cv_istore C (pc' := 91) rfl (D 47 (89, .istore 5, 2) rfl) (by decide) (lv' := [(5, .int (-9)), (7, .int (nI 1)), (6, .int (nI m)), (0, .ref 0), (1, .int (nI d)), (2, .int (nI (60 * k + i))), (3, .int (nI n)), (4, .int (nI v))]) rfl ?_
            refine cv_iincN C (pc' := 94) rfl (D 48 (91, .iinc 6 1, 3) rfl) (j := 2) rfl (by decide) (lv' := [(6, .int (nI (m + 1))), (5, .int (-9)), (7, .int (nI 1)), (0, .ref 0), (1, .int (nI d)), (2, .int (nI (60 * k + i))), (3, .int (nI n)), (4, .int (nI v))]) rfl ?_
            refine cv_goto C (tgt := 27) (D 49 (94, .goto (-67), 3) rfl) (by decide) ?_
            refine cv_pick [0, 1, 3, 4, 5, 6, 7] (lv' := [(6, .int (nI (m + 1))), (5, .int (-9)), (0, .ref 0), (1, .int (nI d)), (2, .int (nI (60 * k + i))), (3, .int (nI n)), (4, .int (nI v))]) rfl ?_
            exact ih27 (m + 1) q2 u76 (by omega) (by simp only [cv_ru]; rw [hq]; dsimp only; rw [cv_nt, ex, nI_clamp (by omega)]; exact hq2) (e3 q2 hq2) (cv_fy_t hFτ e2) (Or.inr hb)
        · skip
          refine cv_aload_n C (pc' := 46) rfl (D 24 (45, .aload_n 0, 1) rfl) rfl (j := 2) rfl ?_
          refine cv_iconst C (pc' := 47) rfl (D 25 (46, .iconst 0, 1) rfl) (v := nI 0) (by decide) ?_
          refine cv_iload_n C (pc' := 48) rfl (D 26 (47, .iload_n 1, 1) rfl) rfl (j := 3) rfl ?_
          refine cv_callV C (pc' := 51) rfl (k0 := 0) (ci := 7) (As := [.int (nI 0), .int (nI d)]) (rest := []) (idx := 136) (np := 2) (kX7_doesGive L 0 d τ hLτ hB (by omega) (by omega)) (by decide) rfl rfl rfl (by decide +kernel) rfl wmX7_136 wi_yX7_doesGive ws_yX7_doesGive wn_X7 wc_yX7_doesGive (by decide) (by decide) (D 27 (48, .invokevirtual 136, 3) rfl) (Nat.le_of_ble_eq_true rfl) rfl (fun w9 u9 h9 => ?_)
          rw [h9.1, h9.2]
          show cv_At X _ _ τ 51 _ [.int (cv_b ((L 6 0).testBit d))]
          refine cv_if_eqB C (pc' := 54) rfl (tgt := 58) (D 28 (51, .ifCond .eq 7, 3) rfl) (by decide) (fun b51 => ?_) (fun b51 => ?_)
          · skip
            refine cv_iconst C (pc' := 59) rfl (D 31 (58, .iconst 0, 1) rfl) (v := nI 0) (by decide) ?_
            refine cv_istore C (pc' := 61) rfl (D 32 (59, .istore 7, 2) rfl) (by decide) (lv' := [(7, .int (nI 0)), (6, .int (nI m)), (5, .int (-9)), (0, .ref 0), (1, .int (nI d)), (2, .int (nI (60 * k + i))), (3, .int (nI n)), (4, .int (nI v))]) rfl ?_
            refine cv_iload C (pc' := 63) rfl (D 33 (61, .iload 7, 2) rfl) (j := 0) rfl ?_
            refine cv_if_eq C (pc' := 66) rfl (tgt := 87) (D 34 (63, .ifCond .eq 24, 3) rfl) (by decide) (fun _ => ?_) (fun h => absurd h (by decide))
            have hm0 : m = 0 := by rcases hk0 with h | h; exact h; rw [h] at b51; cases b51
            have hwr : cv_wr L g i d n = some m := by unfold cv_wr; rw [if_neg (by simp [b51]), if_neg (by omega), hm0]
            refine cv_iload C (pc' := 89) rfl (D 46 (87, .iload 6, 2) rfl) (j := 1) rfl ?_
            refine cv_istore C (pc' := 91) rfl (D 47 (89, .istore 5, 2) rfl) (by decide) (lv' := [(5, .int (nI m)), (7, .int (nI 0)), (6, .int (nI m)), (0, .ref 0), (1, .int (nI d)), (2, .int (nI (60 * k + i))), (3, .int (nI n)), (4, .int (nI v))]) rfl ?_
            refine cv_iincN C (pc' := 94) rfl (D 48 (91, .iinc 6 1, 3) rfl) (j := 2) rfl (by decide) (lv' := [(6, .int (nI (m + 1))), (5, .int (nI m)), (7, .int (nI 0)), (0, .ref 0), (1, .int (nI d)), (2, .int (nI (60 * k + i))), (3, .int (nI n)), (4, .int (nI v))]) rfl ?_
            refine cv_goto C (tgt := 27) (D 49 (94, .goto (-67), 3) rfl) (by decide) ?_
            refine cv_iload C (pc' := 29) rfl (D 16 (27, .iload 6, 2) rfl) (j := 0) rfl ?_
            refine cv_iload_n C (pc' := 30) rfl (D 17 (29, .iload_n 3, 1) rfl) rfl (j := 6) rfl ?_
            refine cv_icmp_geN C (pc' := 33) rfl (by omega) (by omega) (tgt := 97) (D 18 (30, .if_icmp .ge 67, 3) rfl) (by decide) (fun b30 => ?_) (fun b30 => ?_)
            · skip
              refine cv_iload C (pc' := 99) rfl (D 50 (97, .iload 4, 2) rfl) (j := 7) rfl ?_
              refine cv_iconst C (pc' := 100) rfl (D 51 (99, .iconst 1, 1) rfl) (v := nI 1) (by decide) ?_
              refine cv_icmp_neN C (pc' := 103) rfl (by omega) (by omega) (tgt := 106) (D 52 (100, .if_icmp .ne 6, 3) rfl) (by decide) (fun b100 => ?_) (fun b100 => ?_)
              · skip
                refine cv_iload C (pc' := 108) rfl (D 55 (106, .iload 5, 2) rfl) (j := 1) rfl ?_
                refine cv_bipush C (pc' := 110) rfl (D 56 (108, .bipush (-9), 2) rfl) (v := -9) (by decide) ?_
                refine cv_icmp_eq C (pc' := 113) rfl (tgt := 119) (D 57 (110, .if_icmp .eq 9, 3) rfl) (by decide) (fun b110 => ?_) (fun b110 => ?_)
                · skip
                  exact absurd b110 (cv_m9 (by omega))
                · skip
                  refine cv_bipush C (pc' := 115) rfl (D 58 (113, .bipush (-100), 2) rfl) (v := -100) (by decide) ?_
                  refine cv_iload C (pc' := 117) rfl (D 59 (115, .iload 5, 2) rfl) (j := 1) rfl ?_
                  refine cv_isub C (pc' := 118) rfl (D 60 (117, .isub, 1) rfl) ?_
                  exact cv_iret C Rt rfl (D 61 (118, .ireturn, 1) rfl) ⟨congrArg (fun z => some (Value.int z)) (by rw [hwr]; unfold cv_ow; rw [if_neg b100]), hFτ⟩
              · skip
                refine cv_iload C (pc' := 105) rfl (D 53 (103, .iload 5, 2) rfl) (j := 1) rfl ?_
                exact cv_iret C Rt rfl (D 54 (105, .ireturn, 1) rfl) ⟨congrArg (fun z => some (Value.int z)) (by rw [hwr]; unfold cv_ow; rw [if_pos b100]; rfl), hFτ⟩
            · skip
              refine cv_iload C (pc' := 35) rfl (D 19 (33, .iload 5, 2) rfl) (j := 1) rfl ?_
              refine cv_bipush C (pc' := 37) rfl (D 20 (35, .bipush (-9), 2) rfl) (v := -9) (by decide) ?_
              refine cv_icmp_ne C (pc' := 40) rfl (tgt := 97) (D 21 (37, .if_icmp .ne 60, 3) rfl) (by decide) (fun b37 => ?_) (fun b37 => ?_)
              · skip
                refine cv_iload C (pc' := 99) rfl (D 50 (97, .iload 4, 2) rfl) (j := 7) rfl ?_
                refine cv_iconst C (pc' := 100) rfl (D 51 (99, .iconst 1, 1) rfl) (v := nI 1) (by decide) ?_
                refine cv_icmp_neN C (pc' := 103) rfl (by omega) (by omega) (tgt := 106) (D 52 (100, .if_icmp .ne 6, 3) rfl) (by decide) (fun b100 => ?_) (fun b100 => ?_)
                · skip
                  refine cv_iload C (pc' := 108) rfl (D 55 (106, .iload 5, 2) rfl) (j := 1) rfl ?_
                  refine cv_bipush C (pc' := 110) rfl (D 56 (108, .bipush (-9), 2) rfl) (v := -9) (by decide) ?_
                  refine cv_icmp_eq C (pc' := 113) rfl (tgt := 119) (D 57 (110, .if_icmp .eq 9, 3) rfl) (by decide) (fun b110 => ?_) (fun b110 => ?_)
                  · skip
                    exact absurd b110 (cv_m9 (by omega))
                  · skip
                    refine cv_bipush C (pc' := 115) rfl (D 58 (113, .bipush (-100), 2) rfl) (v := -100) (by decide) ?_
                    refine cv_iload C (pc' := 117) rfl (D 59 (115, .iload 5, 2) rfl) (j := 1) rfl ?_
                    refine cv_isub C (pc' := 118) rfl (D 60 (117, .isub, 1) rfl) ?_
                    exact cv_iret C Rt rfl (D 61 (118, .ireturn, 1) rfl) ⟨congrArg (fun z => some (Value.int z)) (by rw [hwr]; unfold cv_ow; rw [if_neg b100]), hFτ⟩
                · skip
                  refine cv_iload C (pc' := 105) rfl (D 53 (103, .iload 5, 2) rfl) (j := 1) rfl ?_
                  exact cv_iret C Rt rfl (D 54 (105, .ireturn, 1) rfl) ⟨congrArg (fun z => some (Value.int z)) (by rw [hwr]; unfold cv_ow; rw [if_pos b100]; rfl), hFτ⟩
              · skip
                exact absurd b37 (cv_m9 (by omega))
          · skip
            have hb : (L 6 0).testBit d = true := b51
            refine cv_iconst C (pc' := 55) rfl (D 29 (54, .iconst 1, 1) rfl) (v := nI 1) (by decide) ?_
            refine cv_goto C (tgt := 59) (D 30 (55, .goto 4, 3) rfl) (by decide) ?_
            refine cv_istore C (pc' := 61) rfl (D 32 (59, .istore 7, 2) rfl) (by decide) (lv' := [(7, .int (nI 1)), (6, .int (nI m)), (5, .int (-9)), (0, .ref 0), (1, .int (nI d)), (2, .int (nI (60 * k + i))), (3, .int (nI n)), (4, .int (nI v))]) rfl ?_
            refine cv_iload C (pc' := 63) rfl (D 33 (61, .iload 7, 2) rfl) (j := 0) rfl ?_
            refine cv_if_eq C (pc' := 66) rfl (tgt := 87) (D 34 (63, .ifCond .eq 24, 3) rfl) (by decide) (fun h => absurd h (by decide)) (fun _ => ?_)
            refine cv_aload_n C (pc' := 67) rfl (D 35 (66, .aload_n 0, 1) rfl) rfl (j := 3) rfl ?_
            refine cv_aload_n C (pc' := 68) rfl (D 36 (67, .aload_n 0, 1) rfl) rfl (j := 3) rfl ?_
            refine cv_get C (pc' := 71) rfl (k0 := 0) (i := 4) (ci := 7) (by decide) rfl rfl (by decide) (o := some 3) rfl iw_X7 wfX7_16 (D 37 (68, .getfield 16, 3) rfl) rfl ?_
            refine cv_iload_n C (pc' := 72) rfl (D 38 (71, .iload_n 2, 1) rfl) rfl (j := 5) rfl ?_
            refine cv_iload C (pc' := 74) rfl (D 39 (72, .iload 6, 2) rfl) (j := 1) rfl ?_
            refine cv_iaddN C (pc' := 75) rfl (D 40 (74, .iadd, 1) rfl) ?_
            refine cv_iald C (pc' := 76) rfl (k0 := 3) (j := (60 * k + i) + m) (by decide) rfl rfl (by omega) (by decide) (D 41 (75, .iaload, 1) rfl) (v := nI x) (by rw [hFτ.1 3 (by decide), Nat.add_assoc, hf _ (by omega)]; exact ex) ?_
            refine cv_callV C (pc' := 79) rfl (k0 := 0) (ci := 7) (As := [.int (nI x)]) (rest := []) (idx := 179) (np := 1) (kX7_goStep L q x τ hLτ hB hMτ hWτ hWB hx6 hx) (by decide) rfl rfl rfl (by decide +kernel) rfl wmX7_179 wi_yX7_goStep ws_yX7_goStep wn_X7 wc_yX7_goStep (by decide) (by decide) (D 42 (76, .invokevirtual 179, 3) rfl) (Nat.le_of_ble_eq_true rfl) rfl (fun w76 u76 h76 => ?_)
            obtain ⟨e1, e2, e3⟩ := h76
            rw [e1]
            show cv_At X _ _ u76 79 _ [.int (cv_b ((cv_st L x q).isSome))]
            refine cv_if_eqB C (pc' := 82) rfl (tgt := 87) (D 43 (79, .ifCond .eq 8, 3) rfl) (by decide) (fun b79 => ?_) (fun b79 => ?_)
            · skip
              have hwr : cv_wr L g i d n = some m := cv_wr_some hb (by omega) hq (by rw [cv_nt, ex, nI_clamp (by omega)]; cases hs : cv_st L x q with | none => rfl | some q2 => rw [hs] at b79; cases b79)
              refine cv_iload C (pc' := 89) rfl (D 46 (87, .iload 6, 2) rfl) (j := 1) rfl ?_
              refine cv_istore C (pc' := 91) rfl (D 47 (89, .istore 5, 2) rfl) (by decide) (lv' := [(5, .int (nI m)), (7, .int (nI 1)), (6, .int (nI m)), (0, .ref 0), (1, .int (nI d)), (2, .int (nI (60 * k + i))), (3, .int (nI n)), (4, .int (nI v))]) rfl ?_
              refine cv_iincN C (pc' := 94) rfl (D 48 (91, .iinc 6 1, 3) rfl) (j := 2) rfl (by decide) (lv' := [(6, .int (nI (m + 1))), (5, .int (nI m)), (7, .int (nI 1)), (0, .ref 0), (1, .int (nI d)), (2, .int (nI (60 * k + i))), (3, .int (nI n)), (4, .int (nI v))]) rfl ?_
              refine cv_goto C (tgt := 27) (D 49 (94, .goto (-67), 3) rfl) (by decide) ?_
              refine cv_iload C (pc' := 29) rfl (D 16 (27, .iload 6, 2) rfl) (j := 0) rfl ?_
              refine cv_iload_n C (pc' := 30) rfl (D 17 (29, .iload_n 3, 1) rfl) rfl (j := 6) rfl ?_
              refine cv_icmp_geN C (pc' := 33) rfl (by omega) (by omega) (tgt := 97) (D 18 (30, .if_icmp .ge 67, 3) rfl) (by decide) (fun b30 => ?_) (fun b30 => ?_)
              · skip
                refine cv_iload C (pc' := 99) rfl (D 50 (97, .iload 4, 2) rfl) (j := 7) rfl ?_
                refine cv_iconst C (pc' := 100) rfl (D 51 (99, .iconst 1, 1) rfl) (v := nI 1) (by decide) ?_
                refine cv_icmp_neN C (pc' := 103) rfl (by omega) (by omega) (tgt := 106) (D 52 (100, .if_icmp .ne 6, 3) rfl) (by decide) (fun b100 => ?_) (fun b100 => ?_)
                · skip
                  refine cv_iload C (pc' := 108) rfl (D 55 (106, .iload 5, 2) rfl) (j := 1) rfl ?_
                  refine cv_bipush C (pc' := 110) rfl (D 56 (108, .bipush (-9), 2) rfl) (v := -9) (by decide) ?_
                  refine cv_icmp_eq C (pc' := 113) rfl (tgt := 119) (D 57 (110, .if_icmp .eq 9, 3) rfl) (by decide) (fun b110 => ?_) (fun b110 => ?_)
                  · skip
                    exact absurd b110 (cv_m9 (by omega))
                  · skip
                    refine cv_bipush C (pc' := 115) rfl (D 58 (113, .bipush (-100), 2) rfl) (v := -100) (by decide) ?_
                    refine cv_iload C (pc' := 117) rfl (D 59 (115, .iload 5, 2) rfl) (j := 1) rfl ?_
                    refine cv_isub C (pc' := 118) rfl (D 60 (117, .isub, 1) rfl) ?_
                    exact cv_iret C Rt rfl (D 61 (118, .ireturn, 1) rfl) ⟨congrArg (fun z => some (Value.int z)) (by rw [hwr]; unfold cv_ow; rw [if_neg b100]), (cv_fy_t hFτ e2)⟩
                · skip
                  refine cv_iload C (pc' := 105) rfl (D 53 (103, .iload 5, 2) rfl) (j := 1) rfl ?_
                  exact cv_iret C Rt rfl (D 54 (105, .ireturn, 1) rfl) ⟨congrArg (fun z => some (Value.int z)) (by rw [hwr]; unfold cv_ow; rw [if_pos b100]; rfl), (cv_fy_t hFτ e2)⟩
              · skip
                refine cv_iload C (pc' := 35) rfl (D 19 (33, .iload 5, 2) rfl) (j := 1) rfl ?_
                refine cv_bipush C (pc' := 37) rfl (D 20 (35, .bipush (-9), 2) rfl) (v := -9) (by decide) ?_
                refine cv_icmp_ne C (pc' := 40) rfl (tgt := 97) (D 21 (37, .if_icmp .ne 60, 3) rfl) (by decide) (fun b37 => ?_) (fun b37 => ?_)
                · skip
                  refine cv_iload C (pc' := 99) rfl (D 50 (97, .iload 4, 2) rfl) (j := 7) rfl ?_
                  refine cv_iconst C (pc' := 100) rfl (D 51 (99, .iconst 1, 1) rfl) (v := nI 1) (by decide) ?_
                  refine cv_icmp_neN C (pc' := 103) rfl (by omega) (by omega) (tgt := 106) (D 52 (100, .if_icmp .ne 6, 3) rfl) (by decide) (fun b100 => ?_) (fun b100 => ?_)
                  · skip
                    refine cv_iload C (pc' := 108) rfl (D 55 (106, .iload 5, 2) rfl) (j := 1) rfl ?_
                    refine cv_bipush C (pc' := 110) rfl (D 56 (108, .bipush (-9), 2) rfl) (v := -9) (by decide) ?_
                    refine cv_icmp_eq C (pc' := 113) rfl (tgt := 119) (D 57 (110, .if_icmp .eq 9, 3) rfl) (by decide) (fun b110 => ?_) (fun b110 => ?_)
                    · skip
                      exact absurd b110 (cv_m9 (by omega))
                    · skip
                      refine cv_bipush C (pc' := 115) rfl (D 58 (113, .bipush (-100), 2) rfl) (v := -100) (by decide) ?_
                      refine cv_iload C (pc' := 117) rfl (D 59 (115, .iload 5, 2) rfl) (j := 1) rfl ?_
                      refine cv_isub C (pc' := 118) rfl (D 60 (117, .isub, 1) rfl) ?_
                      exact cv_iret C Rt rfl (D 61 (118, .ireturn, 1) rfl) ⟨congrArg (fun z => some (Value.int z)) (by rw [hwr]; unfold cv_ow; rw [if_neg b100]), (cv_fy_t hFτ e2)⟩
                  · skip
                    refine cv_iload C (pc' := 105) rfl (D 53 (103, .iload 5, 2) rfl) (j := 1) rfl ?_
                    exact cv_iret C Rt rfl (D 54 (105, .ireturn, 1) rfl) ⟨congrArg (fun z => some (Value.int z)) (by rw [hwr]; unfold cv_ow; rw [if_pos b100]; rfl), (cv_fy_t hFτ e2)⟩
                · skip
                  exact absurd b37 (cv_m9 (by omega))
            · skip
              obtain ⟨q2, hq2⟩ : ∃ q2, cv_st L x q = some q2 := Option.isSome_iff_exists.mp b79
              refine cv_bipush C (pc' := 84) rfl (D 44 (82, .bipush (-9), 2) rfl) (v := -9) (by decide) ?_
              refine cv_goto C (tgt := 89) (D 45 (84, .goto 5, 3) rfl) (by decide) ?_
              refine cv_istore C (pc' := 91) rfl (D 47 (89, .istore 5, 2) rfl) (by decide) (lv' := [(5, .int (-9)), (7, .int (nI 1)), (6, .int (nI m)), (0, .ref 0), (1, .int (nI d)), (2, .int (nI (60 * k + i))), (3, .int (nI n)), (4, .int (nI v))]) rfl ?_
              refine cv_iincN C (pc' := 94) rfl (D 48 (91, .iinc 6 1, 3) rfl) (j := 2) rfl (by decide) (lv' := [(6, .int (nI (m + 1))), (5, .int (-9)), (7, .int (nI 1)), (0, .ref 0), (1, .int (nI d)), (2, .int (nI (60 * k + i))), (3, .int (nI n)), (4, .int (nI v))]) rfl ?_
              refine cv_goto C (tgt := 27) (D 49 (94, .goto (-67), 3) rfl) (by decide) ?_
              refine cv_pick [0, 1, 3, 4, 5, 6, 7] (lv' := [(6, .int (nI (m + 1))), (5, .int (-9)), (0, .ref 0), (1, .int (nI d)), (2, .int (nI (60 * k + i))), (3, .int (nI n)), (4, .int (nI v))]) rfl ?_
              exact ih27 (m + 1) q2 u76 (by omega) (by simp only [cv_ru]; rw [hq]; dsimp only; rw [cv_nt, ex, nI_clamp (by omega)]; exact hq2) (e3 q2 hq2) (cv_fy_t hFτ e2) (Or.inr hb)
  exact LP27 n 0 (d, 0, 0, 0) _ (by omega) rfl ⟨(cv_u_i (by decide)).trans ((cv_u_i (by decide)).trans ((cv_u_i (by decide)).trans cv_u_s)), (cv_u_i (by decide)).trans ((cv_u_i (by decide)).trans cv_u_s), (cv_u_i (by decide)).trans cv_u_s, cv_u_s⟩ (cv_fy_u (cv_fy_u (cv_fy_u (cv_fy_u (cv_fy_r μ) (by decide)) (by decide)) (by decide)) (by decide)) (Or.inl rfl)

theorem cv_r1_o {L : cv_L} {s : Int32} (h : cv_in s 9 = false) : cv_r1 L s = -2 := by
  unfold cv_r1
  rw [if_pos]
  by_cases h1 : s < 0
  · exact Or.inl h1
  · refine Or.inr ?_
    rcases Decidable.em (nI 8 < s) with h2 | h2
    · exact h2
    · obtain ⟨x, hx, rfl⟩ := nI_of h1
      have : ¬ 8 < x := fun e => h2 (nI_lt e hx)
      rw [cv_in_nI (by omega) (by decide)] at h
      cases h
theorem cv_r1_i {s : Int32} (h : cv_in s 9 = true) : ¬ (s < 0 ∨ nI 8 < s) := by
  obtain ⟨x, hx, rfl⟩ := cv_in_of h (by decide)
  rintro (h1 | h1)
  · exact nI_pos (by omega) h1
  · have := (nI_ltI (by decide) (by omega)).mp h1
    omega
set_option maxHeartbeats 4000000 in
set_option maxRecDepth 100000 in
theorem pX7_way (tr : Int32) (ft : Nat) (sl : Nat → Option (Nat × Nat)) (sc : Nat → Nat → Int32) (L : cv_L) (rc : Nat) (rd : Nat → Nat) (rn : Nat → Option Nat) (x y z w t v0 : Int32) (μ : cv_St) (hR : cv_RM tr ft sl sc L rc rd rn μ) (hB : cv_LB L) (hDB : cv_DB rc rd rn) : cv_Ct yX7_way cX7_way 10 (some .int) 3 0 0 17 cv_shM [.ref 0, .int x, .int y, .int z, .int w, .int t, .int v0] μ (fun v u => v = some (.int (cv_a_way sl sc L x y z w t v0)) ∧ cv_RM tr (cv_f_way sl x y z w t v0) sl sc L rc rd rn u) := by
  refine cv_enter (own := RX7) (by decide) rfl (Nat.le_of_ble_eq_true rfl) ?_
  intro X a C Rt hRm
  have D := @cv_dec _ _ dkX7_way
  obtain ⟨hTr, hFt, hSh, hL, hM, hD⟩ := id hR
  have hn6 := hB.1
  have hrc := hDB.1
  show cv_At X _ _ μ 0 [(0, .ref 0), (1, .int x), (2, .int y), (3, .int z), (4, .int w), (5, .int t), (6, .int v0)] []
  refine cv_aload_n C (pc' := 1) rfl (D 0 (0, .aload_n 0, 1) rfl) rfl (j := 0) rfl ?_
  refine cv_iconst C (pc' := 2) rfl (D 1 (1, .iconst 0, 1) rfl) (v := nI 0) (by decide) ?_
  refine cv_put C (pc' := 5) rfl (k0 := 0) (i := 0) (ci := 7) (by decide) rfl rfl (by decide) rfl iw_X7 tyX7 tyX7_ok nmX7 wfX7_62 rfl rfl rfl (D 2 (2, .putfield 62, 3) rfl) ?_
  refine cv_iload_n C (pc' := 6) rfl (D 3 (5, .iload_n 1, 1) rfl) rfl (j := 1) rfl ?_
  refine cv_callS C (pc' := 9) rfl (As := [.int x]) (rest := []) (idx := 124) (np := 1) (kX7_isDay x (cv_u μ 0 0 (nI 0))) (by decide +kernel) rfl wmX7_124 wt_yX7_isDay wn_X7 wc_yX7_isDay (by decide) (by decide) (D 4 (6, .invokestatic 124, 3) rfl) (Nat.le_of_ble_eq_true rfl) rfl (fun w9 u9 h9 => ?_)
  rw [h9.1, h9.2]
  show cv_At X _ _ (cv_u μ 0 0 (nI 0)) 9 _ [.int (cv_b (cv_in x 8))]
  refine cv_if_neB C (pc' := 12) rfl (tgt := 15) (D 5 (9, .ifCond .ne 6, 3) rfl) (by decide) (fun b9 => ?_) (fun b9 => ?_)
  · skip
    refine cv_iload_n C (pc' := 16) rfl (D 8 (15, .iload_n 2, 1) rfl) rfl (j := 2) rfl ?_
    refine cv_callS C (pc' := 19) rfl (As := [.int y]) (rest := []) (idx := 81) (np := 1) (kX7_isSheet y (cv_u μ 0 0 (nI 0))) (by decide +kernel) rfl wmX7_81 wt_yX7_isSheet wn_X7 wc_yX7_isSheet (by decide) (by decide) (D 9 (16, .invokestatic 81, 3) rfl) (Nat.le_of_ble_eq_true rfl) rfl (fun w9 u9 h9 => ?_)
    rw [h9.1, h9.2]
    show cv_At X _ _ (cv_u μ 0 0 (nI 0)) 19 _ [.int (cv_b (cv_in y 4))]
    refine cv_if_neB C (pc' := 22) rfl (tgt := 24) (D 10 (19, .ifCond .ne 5, 3) rfl) (by decide) (fun b19 => ?_) (fun b19 => ?_)
    · skip
      refine cv_iload_n C (pc' := 25) rfl (D 13 (24, .iload_n 3, 1) rfl) rfl (j := 3) rfl ?_
      refine cv_callS C (pc' := 28) rfl (As := [.int z]) (rest := []) (idx := 85) (np := 1) (kX7_isSort z (cv_u μ 0 0 (nI 0))) (by decide +kernel) rfl wmX7_85 wt_yX7_isSort wn_X7 wc_yX7_isSort (by decide) (by decide) (D 14 (25, .invokestatic 85, 3) rfl) (Nat.le_of_ble_eq_true rfl) rfl (fun w9 u9 h9 => ?_)
      rw [h9.1, h9.2]
      show cv_At X _ _ (cv_u μ 0 0 (nI 0)) 28 _ [.int (cv_b (cv_in z 3))]
      refine cv_if_eqB C (pc' := 31) rfl (tgt := 52) (D 15 (28, .ifCond .eq 24, 3) rfl) (by decide) (fun b28 => ?_) (fun b28 => ?_)
      · skip
        refine cv_bipush C (pc' := 54) rfl (D 26 (52, .bipush (-2), 2) rfl) (v := -2) (by decide) ?_
        exact cv_iret C Rt rfl (D 27 (54, .ireturn, 1) rfl) ⟨congrArg (fun z => some (Value.int z)) (by unfold cv_a_way; rw [if_pos b9, if_pos b19, if_neg (by simp [b28])]), by unfold cv_f_way; rw [if_neg (by simp [b28])]; exact cv_RM_f _ hR⟩
      · skip
        refine cv_iload C (pc' := 33) rfl (D 16 (31, .iload 5, 2) rfl) (j := 5) rfl ?_
        refine cv_iconst C (pc' := 34) rfl (D 17 (33, .iconst 0, 1) rfl) (v := nI 0) (by decide) ?_
        refine cv_bipush C (pc' := 36) rfl (D 18 (34, .bipush 20, 2) rfl) (v := nI 20) (by decide) ?_
        refine cv_callS C (pc' := 39) rfl (As := [.int t, .int (nI 0), .int (nI 20)]) (rest := []) (idx := 67) (np := 3) (kX7_win t 20 (cv_u μ 0 0 (nI 0)) (by decide)) (by decide +kernel) rfl wmX7_67 wt_yX7_within wn_X7 wc_yX7_within (by decide) (by decide) (D 19 (36, .invokestatic 67, 3) rfl) (Nat.le_of_ble_eq_true rfl) rfl (fun w9 u9 h9 => ?_)
        rw [h9.1, h9.2]
        show cv_At X _ _ (cv_u μ 0 0 (nI 0)) 39 _ [.int (cv_b (cv_in t 21))]
        refine cv_if_eqB C (pc' := 42) rfl (tgt := 52) (D 20 (39, .ifCond .eq 13, 3) rfl) (by decide) (fun b39 => ?_) (fun b39 => ?_)
        · skip
          refine cv_bipush C (pc' := 54) rfl (D 26 (52, .bipush (-2), 2) rfl) (v := -2) (by decide) ?_
          exact cv_iret C Rt rfl (D 27 (54, .ireturn, 1) rfl) ⟨congrArg (fun z => some (Value.int z)) (by unfold cv_a_way; rw [if_pos b9, if_pos b19, if_neg (by simp [b39])]), by unfold cv_f_way; rw [if_neg (by simp [b39])]; exact cv_RM_f _ hR⟩
        · skip
          refine cv_iload C (pc' := 44) rfl (D 21 (42, .iload 6, 2) rfl) (j := 6) rfl ?_
          refine cv_iconst C (pc' := 45) rfl (D 22 (44, .iconst 0, 1) rfl) (v := nI 0) (by decide) ?_
          refine cv_iconst C (pc' := 46) rfl (D 23 (45, .iconst 4, 1) rfl) (v := nI 4) (by decide) ?_
          refine cv_callS C (pc' := 49) rfl (As := [.int v0, .int (nI 0), .int (nI 4)]) (rest := []) (idx := 67) (np := 3) (kX7_win v0 4 (cv_u μ 0 0 (nI 0)) (by decide)) (by decide +kernel) rfl wmX7_67 wt_yX7_within wn_X7 wc_yX7_within (by decide) (by decide) (D 24 (46, .invokestatic 67, 3) rfl) (Nat.le_of_ble_eq_true rfl) rfl (fun w9 u9 h9 => ?_)
          rw [h9.1, h9.2]
          show cv_At X _ _ (cv_u μ 0 0 (nI 0)) 49 _ [.int (cv_b (cv_in v0 5))]
          refine cv_if_neB C (pc' := 52) rfl (tgt := 55) (D 25 (49, .ifCond .ne 6, 3) rfl) (by decide) (fun b49 => ?_) (fun b49 => ?_)
          · skip
            obtain ⟨j, hj, rfl⟩ := cv_in_of b9 (by omega)
            obtain ⟨k, hk, rfl⟩ := cv_in_of b19 (by omega)
            have hfb := cv_fo_le (sl k) z w t
            refine cv_aload_n C (pc' := 56) rfl (D 28 (55, .aload_n 0, 1) rfl) rfl (j := 0) rfl ?_
            refine cv_iload_n C (pc' := 57) rfl (D 29 (56, .iload_n 2, 1) rfl) rfl (j := 2) rfl ?_
            refine cv_iload_n C (pc' := 58) rfl (D 30 (57, .iload_n 3, 1) rfl) rfl (j := 3) rfl ?_
            refine cv_iload C (pc' := 60) rfl (D 31 (58, .iload 4, 2) rfl) (j := 4) rfl ?_
            refine cv_iload C (pc' := 62) rfl (D 32 (60, .iload 5, 2) rfl) (j := 5) rfl ?_
            refine cv_callV C (pc' := 65) rfl (k0 := 0) (ci := 7) (As := [.int (nI k), .int z, .int w, .int t]) (rest := []) (idx := 88) (np := 4) (kX7_against k (sl k) z w t (cv_u μ 0 0 (nI 0)) hk (by rw [cv_u_c (by decide), cv_u_c (by decide)]; exact (hSh k hk).1)) (by decide) rfl rfl rfl (by decide +kernel) rfl wmX7_88 wi_yX7_against ws_yX7_against wn_X7 wc_yX7_against (by decide) (by decide) (D 33 (62, .invokevirtual 88, 3) rfl) (Nat.le_of_ble_eq_true rfl) rfl (fun w9 u9 h9 => ?_)
            rw [h9.1, h9.2]
            show cv_At X _ _ (cv_u μ 0 0 (nI 0)) 65 _ [.int (nI (cv_fo (sl k) z w t))]
            refine cv_istore C (pc' := 67) rfl (D 34 (65, .istore 7, 2) rfl) (by decide) (lv' := [(7, .int (nI (cv_fo (sl k) z w t))), (0, .ref 0), (1, .int (nI j)), (2, .int (nI k)), (3, .int z), (4, .int w), (5, .int t), (6, .int v0)]) rfl ?_
            refine cv_iload C (pc' := 69) rfl (D 35 (67, .iload 7, 2) rfl) (j := 0) rfl ?_
            refine cv_if_eqN C (pc' := 72) rfl (by omega) (tgt := 79) (D 36 (69, .ifCond .eq 10, 3) rfl) (by decide) (fun b69 => ?_) (fun b69 => ?_)
            · skip
              refine cv_aload_n C (pc' := 80) rfl (D 41 (79, .aload_n 0, 1) rfl) rfl (j := 1) rfl ?_
              refine cv_get C (pc' := 83) rfl (k0 := 0) (i := 5) (ci := 7) (by decide) rfl rfl (by decide) (o := none) rfl iw_X7 wfX7_71 (D 42 (80, .getfield 71, 3) rfl) (v := .int (nI (L 7 0))) (congrArg Value.int ((cv_u_i (by omega)).trans hL.1)) ?_
              refine cv_if_neN C (pc' := 86) rfl (by omega) (tgt := 89) (D 43 (83, .ifCond .ne 6, 3) rfl) (by decide) (fun b83 => ?_) (fun b83 => ?_)
              · skip
                obtain ⟨q0, hq0, -, hyh⟩ := cv_fo_0 b69
                have hS1 := (hSh k hk).1
                rw [hq0] at hS1
                obtain ⟨i, n, ei, en, hin⟩ := cv_hs_of hS1.2.2.2 hyh
                have h60 := hS1.2.2.2
                subst ei
                subst en
                obtain ⟨m0, hm0, rfl⟩ := cv_in_of b49 (by decide)
                have hSc := (hSh k hk).2 (by rw [hq0]; rfl)
                have hLz : cv_LM L (cv_u μ 0 0 (nI 0)) := cv_LM_0 (by decide) hL
                have hMz : cv_u μ 0 0 (nI 0) 0 13 = -9 := (cv_u_i (by decide)).trans hM
                have hSc9 : ∀ m, i + m < 60 → μ 3 (60 * k + i + m) = sc k (i + m) := fun m hm => by rw [Nat.add_assoc]; exact hSc (i + m) hm
                refine cv_bipush C (pc' := 91) rfl (D 46 (89, .bipush 60, 2) rfl) (v := nI 60) (by decide) ?_
                refine cv_iload_n C (pc' := 92) rfl (D 47 (91, .iload_n 2, 1) rfl) rfl (j := 3) rfl ?_
                refine cv_imulN C (pc' := 93) rfl (D 48 (92, .imul, 1) rfl) ?_
                refine cv_iload C (pc' := 95) rfl (D 49 (93, .iload 4, 2) rfl) (j := 5) rfl ?_
                refine cv_iaddN C (pc' := 96) rfl (D 50 (95, .iadd, 1) rfl) ?_
                refine cv_istore C (pc' := 98) rfl (D 51 (96, .istore 8, 2) rfl) (by decide) (lv' := [(8, .int (nI ((60 * k) + i))), (7, .int (nI (cv_fo (sl k) z (nI i) (nI n)))), (0, .ref 0), (1, .int (nI j)), (2, .int (nI k)), (3, .int z), (4, .int (nI i)), (5, .int (nI n)), (6, .int (nI m0))]) rfl ?_
                refine cv_iconst C (pc' := 99) rfl (D 52 (98, .iconst 0, 1) rfl) (v := nI 0) (by decide) ?_
                refine cv_istore C (pc' := 101) rfl (D 53 (99, .istore 9, 2) rfl) (by decide) (lv' := [(9, .int (nI 0)), (8, .int (nI ((60 * k) + i))), (7, .int (nI (cv_fo (sl k) z (nI i) (nI n)))), (0, .ref 0), (1, .int (nI j)), (2, .int (nI k)), (3, .int z), (4, .int (nI i)), (5, .int (nI n)), (6, .int (nI m0))]) rfl ?_
                have LP101 : ∀ (r : Nat) (m : Nat), (m + r = n) → (cv_rs L (sc k) i m = 0) → cv_At X (17, cv_shM, 0, 0, a) 10 (cv_u μ 0 0 (nI 0)) 101 [(9, .int (nI m)), (8, .int (nI (60 * k + i))), (0, .ref 0), (1, .int (nI j)), (2, .int (nI k)), (5, .int (nI n)), (6, .int (nI m0))] [] := by
                  intro r
                  induction r with
                  | zero =>
                    intro m hr h0
                    refine cv_iload C (pc' := 103) rfl (D 54 (101, .iload 9, 2) rfl) (j := 0) rfl ?_
                    refine cv_iload C (pc' := 105) rfl (D 55 (103, .iload 5, 2) rfl) (j := 5) rfl ?_
                    refine cv_icmp_geN C (pc' := 108) rfl (by omega) (by omega) (tgt := 170) (D 56 (105, .if_icmp .ge 65, 3) rfl) (by decide) (fun b105 => ?_) (fun b105 => ?_)
                    · skip
                      refine cv_aload_n C (pc' := 171) rfl (D 90 (170, .aload_n 0, 1) rfl) rfl (j := 2) rfl ?_
                      refine cv_iload_n C (pc' := 172) rfl (D 91 (171, .iload_n 1, 1) rfl) rfl (j := 3) rfl ?_
                      refine cv_iload C (pc' := 174) rfl (D 92 (172, .iload 8, 2) rfl) (j := 1) rfl ?_
                      refine cv_iload C (pc' := 176) rfl (D 93 (174, .iload 5, 2) rfl) (j := 5) rfl ?_
                      refine cv_iload C (pc' := 178) rfl (D 94 (176, .iload 6, 2) rfl) (j := 6) rfl ?_
                      refine cv_callV C (pc' := 181) rfl (k0 := 0) (ci := 7) (As := [.int (nI j), .int (nI (60 * k + i)), .int (nI n), .int (nI m0)]) (rest := []) (idx := 176) (np := 4) (kX7_wayOf L (sc k) k i n j m0 (cv_u μ 0 0 (nI 0)) hLz hB hMz hk (by omega) hj hm0 (fun q hq => by rw [cv_u_c (by decide)]; exact hSc q hq) (cv_rs_0 (by rw [show n = m by omega]; exact h0))) (by decide) rfl rfl rfl (by decide +kernel) rfl wmX7_176 wi_yX7_wayOf ws_yX7_wayOf wn_X7 wc_yX7_wayOf (by decide) (by decide) (D 95 (178, .invokevirtual 176, 3) rfl) (Nat.le_of_ble_eq_true rfl) rfl (fun w178 u178 h178 => ?_)
                      obtain ⟨e1, e2⟩ := h178
                      rw [e1]
                      show cv_At X _ _ u178 181 _ [.int (cv_ow (cv_wr L (sc k) i j n) ((cv_ru L (sc k) i j n).getD (0, 0, 0, 0)) m0)]
                      exact cv_iret C Rt rfl (D 96 (181, .ireturn, 1) rfl) ⟨congrArg (fun z => some (Value.int z)) (by unfold cv_a_way; rw [if_pos b9, if_pos b19, if_pos ⟨b28, b39, b49⟩]; simp only [cv_nt, nI_clamp (show k < 2 ^ 31 by omega), nI_clamp (show i < 2 ^ 31 by omega), nI_clamp (show n < 2 ^ 31 by omega), nI_clamp (show j < 2 ^ 31 by omega), nI_clamp (show m0 < 2 ^ 31 by omega)]; rw [if_pos b69, if_pos (by omega), if_pos (by rw [show n = m by omega]; exact h0)]), by unfold cv_f_way; rw [if_pos ⟨b9, b19, b28, b39, b49⟩]; simp only [cv_nt, nI_clamp (show k < 2 ^ 31 by omega)]; rw [b69]; exact cv_RM_k (cv_fy_m e2) (cv_RM_f 0 hR)⟩
                    · skip
                      omega
                  | succ r ih101 =>
                    intro m hr h0
                    refine cv_iload C (pc' := 103) rfl (D 54 (101, .iload 9, 2) rfl) (j := 0) rfl ?_
                    refine cv_iload C (pc' := 105) rfl (D 55 (103, .iload 5, 2) rfl) (j := 5) rfl ?_
                    refine cv_icmp_geN C (pc' := 108) rfl (by omega) (by omega) (tgt := 170) (D 56 (105, .if_icmp .ge 65, 3) rfl) (by decide) (fun b105 => ?_) (fun b105 => ?_)
                    · skip
                      omega
                    · skip
                      refine cv_aload_n C (pc' := 109) rfl (D 57 (108, .aload_n 0, 1) rfl) rfl (j := 2) rfl ?_
                      refine cv_get C (pc' := 112) rfl (k0 := 0) (i := 4) (ci := 7) (by decide) rfl rfl (by decide) (o := some 3) rfl iw_X7 wfX7_16 (D 58 (109, .getfield 16, 3) rfl) rfl ?_
                      refine cv_iload C (pc' := 114) rfl (D 59 (112, .iload 8, 2) rfl) (j := 1) rfl ?_
                      refine cv_iload C (pc' := 116) rfl (D 60 (114, .iload 9, 2) rfl) (j := 0) rfl ?_
                      refine cv_iaddN C (pc' := 117) rfl (D 61 (116, .iadd, 1) rfl) ?_
                      refine cv_iald C (pc' := 118) rfl (k0 := 3) (j := (60 * k + i) + m) (by decide) rfl rfl (by omega) (by decide) (D 62 (117, .iaload, 1) rfl) (v := sc k (i + m)) ((congrFun (cv_u_c (by omega)) _).trans (hSc9 m (by omega))) ?_
                      refine cv_iconst C (pc' := 119) rfl (D 63 (118, .iconst 0, 1) rfl) (v := nI 0) (by decide) ?_
                      refine cv_bipush C (pc' := 121) rfl (D 64 (119, .bipush 8, 2) rfl) (v := nI 8) (by decide) ?_
                      refine cv_callS C (pc' := 124) rfl (As := [.int (sc k (i + m)), .int (nI 0), .int (nI 8)]) (rest := []) (idx := 67) (np := 3) (kX7_win (sc k (i + m)) 8 (cv_u μ 0 0 (nI 0)) (by decide)) (by decide +kernel) rfl wmX7_67 wt_yX7_within wn_X7 wc_yX7_within (by decide) (by decide) (D 65 (121, .invokestatic 67, 3) rfl) (Nat.le_of_ble_eq_true rfl) rfl (fun w9 u9 h9 => ?_)
                      rw [h9.1, h9.2]
                      show cv_At X _ _ (cv_u μ 0 0 (nI 0)) 124 _ [.int (cv_b (cv_in (sc k (i + m)) 9))]
                      refine cv_if_neB C (pc' := 127) rfl (tgt := 130) (D 66 (124, .ifCond .ne 6, 3) rfl) (by decide) (fun b124 => ?_) (fun b124 => ?_)
                      · skip
                        refine cv_aload_n C (pc' := 131) rfl (D 69 (130, .aload_n 0, 1) rfl) rfl (j := 2) rfl ?_
                        refine cv_get C (pc' := 134) rfl (k0 := 0) (i := 4) (ci := 7) (by decide) rfl rfl (by decide) (o := some 3) rfl iw_X7 wfX7_16 (D 70 (131, .getfield 16, 3) rfl) rfl ?_
                        refine cv_iload C (pc' := 136) rfl (D 71 (134, .iload 8, 2) rfl) (j := 1) rfl ?_
                        refine cv_iload C (pc' := 138) rfl (D 72 (136, .iload 9, 2) rfl) (j := 0) rfl ?_
                        refine cv_iaddN C (pc' := 139) rfl (D 73 (138, .iadd, 1) rfl) ?_
                        refine cv_iald C (pc' := 140) rfl (k0 := 3) (j := (60 * k + i) + m) (by decide) rfl rfl (by omega) (by decide) (D 74 (139, .iaload, 1) rfl) (v := sc k (i + m)) ((congrFun (cv_u_c (by omega)) _).trans (hSc9 m (by omega))) ?_
                        refine cv_bipush C (pc' := 142) rfl (D 75 (140, .bipush 6, 2) rfl) (v := nI 6) (by decide) ?_
                        refine cv_icmp_ge C (pc' := 145) rfl (tgt := 164) (D 76 (142, .if_icmp .ge 22, 3) rfl) (by decide) (fun b142 => ?_) (fun b142 => ?_)
                        · skip
                          refine cv_iincN C (pc' := 167) rfl (D 88 (164, .iinc 9 1, 3) rfl) (j := 0) rfl (by decide) (lv' := [(9, .int (nI (m + 1))), (8, .int (nI (60 * k + i))), (0, .ref 0), (1, .int (nI j)), (2, .int (nI k)), (5, .int (nI n)), (6, .int (nI m0))]) rfl ?_
                          refine cv_goto C (tgt := 101) (D 89 (167, .goto (-66), 3) rfl) (by decide) ?_
                          exact ih101 (m + 1) (by omega) (by simp only [cv_rs]; rw [if_pos h0]; unfold cv_r1; rw [if_neg (cv_r1_i b124), if_neg (fun h => absurd h.1 (Int32.not_lt.mpr b142))])
                        · skip
                          refine cv_aload_n C (pc' := 146) rfl (D 77 (145, .aload_n 0, 1) rfl) rfl (j := 2) rfl ?_
                          refine cv_aload_n C (pc' := 147) rfl (D 78 (146, .aload_n 0, 1) rfl) rfl (j := 2) rfl ?_
                          refine cv_get C (pc' := 150) rfl (k0 := 0) (i := 4) (ci := 7) (by decide) rfl rfl (by decide) (o := some 3) rfl iw_X7 wfX7_16 (D 79 (147, .getfield 16, 3) rfl) rfl ?_
                          refine cv_iload C (pc' := 152) rfl (D 80 (150, .iload 8, 2) rfl) (j := 1) rfl ?_
                          refine cv_iload C (pc' := 154) rfl (D 81 (152, .iload 9, 2) rfl) (j := 0) rfl ?_
                          refine cv_iaddN C (pc' := 155) rfl (D 82 (154, .iadd, 1) rfl) ?_
                          refine cv_iald C (pc' := 156) rfl (k0 := 3) (j := (60 * k + i) + m) (by decide) rfl rfl (by omega) (by decide) (D 83 (155, .iaload, 1) rfl) (v := sc k (i + m)) ((congrFun (cv_u_c (by omega)) _).trans (hSc9 m (by omega))) ?_
                          refine cv_callV C (pc' := 159) rfl (k0 := 0) (ci := 7) (As := [.int (sc k (i + m))]) (rest := []) (idx := 118) (np := 1) (kX7_isPass (sc k (i + m)) L (cv_u μ 0 0 (nI 0)) (cv_LM_0 (by decide) hL)) (by decide) rfl rfl rfl (by decide +kernel) rfl wmX7_118 wi_yX7_isPass ws_yX7_isPass wn_X7 wc_yX7_isPass (by decide) (by decide) (D 84 (156, .invokevirtual 118, 3) rfl) (Nat.le_of_ble_eq_true rfl) rfl (fun w9 u9 h9 => ?_)
                          rw [h9.1, h9.2]
                          show cv_At X _ _ (cv_u μ 0 0 (nI 0)) 159 _ [.int (cv_b (cv_in (sc k (i + m)) (L 7 0)))]
                          refine cv_if_neB C (pc' := 162) rfl (tgt := 164) (D 85 (159, .ifCond .ne 5, 3) rfl) (by decide) (fun b159 => ?_) (fun b159 => ?_)
                          · skip
                            refine cv_iincN C (pc' := 167) rfl (D 88 (164, .iinc 9 1, 3) rfl) (j := 0) rfl (by decide) (lv' := [(9, .int (nI (m + 1))), (8, .int (nI (60 * k + i))), (0, .ref 0), (1, .int (nI j)), (2, .int (nI k)), (5, .int (nI n)), (6, .int (nI m0))]) rfl ?_
                            refine cv_goto C (tgt := 101) (D 89 (167, .goto (-66), 3) rfl) (by decide) ?_
                            exact ih101 (m + 1) (by omega) (by simp only [cv_rs]; rw [if_pos h0]; unfold cv_r1; rw [if_neg (cv_r1_i b124), if_neg (fun h => by rw [h.2] at b159; cases b159)])
                          · skip
                            refine cv_iconst C (pc' := 163) rfl (D 86 (162, .iconst (-1), 1) rfl) (v := -1) (by decide) ?_
                            exact cv_iret C Rt rfl (D 87 (163, .ireturn, 1) rfl) ⟨congrArg (fun z => some (Value.int z)) (by unfold cv_a_way; rw [if_pos b9, if_pos b19, if_pos ⟨b28, b39, b49⟩]; simp only [cv_nt, nI_clamp (show k < 2 ^ 31 by omega), nI_clamp (show i < 2 ^ 31 by omega), nI_clamp (show n < 2 ^ 31 by omega)]; rw [if_pos b69, if_pos (by omega), cv_rs_of h0 (r := -1) (by unfold cv_r1; rw [if_neg (cv_r1_i b124), if_pos ⟨Int32.not_le.mp b142, b159⟩]) (by decide) n (by omega), if_neg (by decide)]), by unfold cv_f_way; rw [if_pos ⟨b9, b19, b28, b39, b49⟩]; simp only [cv_nt, nI_clamp (show k < 2 ^ 31 by omega)]; rw [b69]; exact cv_RM_f _ hR⟩
                      · skip
                        refine cv_bipush C (pc' := 129) rfl (D 67 (127, .bipush (-2), 2) rfl) (v := -2) (by decide) ?_
                        exact cv_iret C Rt rfl (D 68 (129, .ireturn, 1) rfl) ⟨congrArg (fun z => some (Value.int z)) (by unfold cv_a_way; rw [if_pos b9, if_pos b19, if_pos ⟨b28, b39, b49⟩]; simp only [cv_nt, nI_clamp (show k < 2 ^ 31 by omega), nI_clamp (show i < 2 ^ 31 by omega), nI_clamp (show n < 2 ^ 31 by omega)]; rw [if_pos b69, if_pos (by omega), cv_rs_of h0 (r := -2) (cv_r1_o b124) (by decide) n (by omega), if_neg (by decide)]), by unfold cv_f_way; rw [if_pos ⟨b9, b19, b28, b39, b49⟩]; simp only [cv_nt, nI_clamp (show k < 2 ^ 31 by omega)]; rw [b69]; exact cv_RM_f _ hR⟩
                refine cv_pick [0, 1, 3, 4, 5, 8, 9] (lv' := [(9, .int (nI 0)), (8, .int (nI ((60 * k) + i))), (0, .ref 0), (1, .int (nI j)), (2, .int (nI k)), (5, .int (nI n)), (6, .int (nI m0))]) rfl ?_
                exact LP101 n 0 (by omega) rfl
              · skip
                refine cv_bipush C (pc' := 88) rfl (D 44 (86, .bipush (-3), 2) rfl) (v := -3) (by decide) ?_
                exact cv_iret C Rt rfl (D 45 (88, .ireturn, 1) rfl) ⟨congrArg (fun z => some (Value.int z)) (by unfold cv_a_way; rw [if_pos b9, if_pos b19, if_pos ⟨b28, b39, b49⟩]; simp only [cv_nt, nI_clamp (show k < 2 ^ 31 by omega)]; rw [if_pos b69, if_neg (by omega)]), by unfold cv_f_way; rw [if_pos ⟨b9, b19, b28, b39, b49⟩]; simp only [cv_nt, nI_clamp (show k < 2 ^ 31 by omega)]; rw [b69]; exact cv_RM_f _ hR⟩
            · skip
              refine cv_aload_n C (pc' := 73) rfl (D 37 (72, .aload_n 0, 1) rfl) rfl (j := 1) rfl ?_
              refine cv_iload C (pc' := 75) rfl (D 38 (73, .iload 7, 2) rfl) (j := 0) rfl ?_
              refine cv_callV C (pc' := 78) rfl (k0 := 0) (ci := 7) (As := [.int (nI (cv_fo (sl k) z w t))]) (rest := []) (idx := 92) (np := 1) (kX7_fails (cv_fo (sl k) z w t) (cv_u μ 0 0 (nI 0))) (by decide) rfl rfl rfl (by decide +kernel) rfl wmX7_92 wi_yX7_fails ws_yX7_fails wn_X7 wc_yX7_fails (by decide) (by decide) (D 39 (75, .invokevirtual 92, 3) rfl) (Nat.le_of_ble_eq_true rfl) rfl (fun w75 u75 h75 => ?_)
              rw [h75.1, h75.2, cv_uu]
              show cv_At X _ _ (cv_u μ 0 0 (nI (cv_fo (sl k) z w t))) 78 _ [.int (-10 - nI (cv_fo (sl k) z w t))]
              exact cv_iret C Rt rfl (D 40 (78, .ireturn, 1) rfl) ⟨congrArg (fun z => some (Value.int z)) (by unfold cv_a_way; rw [if_pos b9, if_pos b19, if_pos ⟨b28, b39, b49⟩]; simp only [cv_nt, nI_clamp (show k < 2 ^ 31 by omega)]; rw [if_neg (by omega)]), by unfold cv_f_way; rw [if_pos ⟨b9, b19, b28, b39, b49⟩]; simp only [cv_nt, nI_clamp (show k < 2 ^ 31 by omega)]; exact cv_RM_f _ hR⟩
          · skip
            refine cv_bipush C (pc' := 54) rfl (D 26 (52, .bipush (-2), 2) rfl) (v := -2) (by decide) ?_
            exact cv_iret C Rt rfl (D 27 (54, .ireturn, 1) rfl) ⟨congrArg (fun z => some (Value.int z)) (by unfold cv_a_way; rw [if_pos b9, if_pos b19, if_neg (by simp [b49])]), by unfold cv_f_way; rw [if_neg (by simp [b49])]; exact cv_RM_f _ hR⟩
    · skip
      refine cv_iconst C (pc' := 23) rfl (D 11 (22, .iconst (-1), 1) rfl) (v := -1) (by decide) ?_
      exact cv_iret C Rt rfl (D 12 (23, .ireturn, 1) rfl) ⟨congrArg (fun z => some (Value.int z)) (by unfold cv_a_way; rw [if_pos b9, if_neg (by simp [b19])]), by unfold cv_f_way; rw [if_neg (by simp [b19])]; exact cv_RM_f _ hR⟩
  · skip
    refine cv_bipush C (pc' := 14) rfl (D 6 (12, .bipush (-2), 2) rfl) (v := -2) (by decide) ?_
    exact cv_iret C Rt rfl (D 7 (14, .ireturn, 1) rfl) ⟨congrArg (fun z => some (Value.int z)) (by unfold cv_a_way; rw [if_neg (by simp [b9])]), by unfold cv_f_way; rw [if_neg (by simp [b9])]; exact cv_RM_f _ hR⟩

