set_option maxHeartbeats 4000000 in
set_option maxRecDepth 100000 in
theorem kX0_placeOf {n : Nat} {sh : Nat → cv_Sh} (d s v : Nat) (σ : cv_St)  : cv_Ct yX0_placeOf cX0_placeOf 3 (some .int) 0 0 0 n sh [.int (nI d), .int (nI s), .int (nI v)] σ (cv_pu (.int (nI ((d * 2 + s) * 3 + v))) σ) := by
  refine cv_enter (own := RX0) (by decide) rfl (Nat.le_of_ble_eq_true rfl) ?_
  intro X a C Rt hRm
  have D := @cv_dec _ _ dkX0_placeOf
  show cv_At X _ _ σ 0 [(0, .int (nI d)), (1, .int (nI s)), (2, .int (nI v))] []
  refine cv_iload_n C (pc' := 1) rfl (D 0 (0, .iload_n 0, 1) rfl) rfl (j := 0) rfl ?_
  refine cv_iconst C (pc' := 2) rfl (D 1 (1, .iconst 2, 1) rfl) (v := nI 2) (by decide) ?_
  refine cv_imulN C (pc' := 3) rfl (D 2 (2, .imul, 1) rfl) ?_
  refine cv_iload_n C (pc' := 4) rfl (D 3 (3, .iload_n 1, 1) rfl) rfl (j := 1) rfl ?_
  refine cv_iaddN C (pc' := 5) rfl (D 4 (4, .iadd, 1) rfl) ?_
  refine cv_iconst C (pc' := 6) rfl (D 5 (5, .iconst 3, 1) rfl) (v := nI 3) (by decide) ?_
  refine cv_imulN C (pc' := 7) rfl (D 6 (6, .imul, 1) rfl) ?_
  refine cv_iload_n C (pc' := 8) rfl (D 7 (7, .iload_n 2, 1) rfl) rfl (j := 2) rfl ?_
  refine cv_iaddN C (pc' := 9) rfl (D 8 (8, .iadd, 1) rfl) ?_
  exact cv_iret C Rt rfl (D 9 (9, .ireturn, 1) rfl) ⟨rfl, rfl⟩

theorem cv_mx {o : Option Nat} (ho : ∀ z, o = some z → z < 2 ^ 31) : (if (-9 : Int32) < cv_o o then cv_o o else -9) = cv_o o := by
  cases o with
  | none => rfl
  | some z =>
    show (if (-9 : Int32) < nI z then nI z else -9) = nI z
    rw [if_pos (cv_m9_lt (ho z rfl))]
theorem cv_mx2 {z : Nat} (hz : z < 2 ^ 31) : (if nI z < (-9 : Int32) then -9 else nI z) = nI z := by
  have h := cv_m9_lt hz
  rw [if_neg (Int32.lt_asymm h)]
theorem cv_mi {x y : Nat} (hx : x < 2 ^ 31) (hy : y < 2 ^ 31) : (if nI y < nI x then nI y else nI x) = nI (min x y) := by
  by_cases h : y < x
  · rw [if_pos (nI_lt h hx), Nat.min_eq_right (by omega)]
  · rw [if_neg (fun e => h ((nI_ltI hy hx).mp e)), Nat.min_eq_left (by omega)]
set_option maxHeartbeats 4000000 in
set_option maxRecDepth 100000 in
theorem kX0_fewer {n : Nat} {sh : Nat → cv_Sh} (o1 o2 : Option Nat) (σ : cv_St) (h1 : ∀ z, o1 = some z → z < 2 ^ 31) (h2 : ∀ z, o2 = some z → z < 2 ^ 31) : cv_Ct yX0_fewer cX0_fewer 2 (some .int) 1 0 0 n sh [.int (cv_o o1), .int (cv_o o2)] σ (cv_pu (.int (cv_o (cv_mn o1 o2))) σ) := by
  refine cv_enter (own := RX0) (by decide) rfl (Nat.le_of_ble_eq_true rfl) ?_
  intro X a C Rt hRm
  have D := @cv_dec _ _ dkX0_fewer
  show cv_At X _ _ σ 0 [(0, .int (cv_o o1)), (1, .int (cv_o o2))] []
  refine cv_iload_n C (pc' := 1) rfl (D 0 (0, .iload_n 0, 1) rfl) rfl (j := 0) rfl ?_
  refine cv_bipush C (pc' := 3) rfl (D 1 (1, .bipush (-9), 2) rfl) (v := -9) (by decide) ?_
  refine cv_icmp_eqO C (pc' := 6) rfl h1 (tgt := 12) (D 2 (3, .if_icmp .eq 9, 3) rfl) (by decide) (fun b3 => ?_) (fun z3 b3 => ?_)
  · skip
    refine cv_iload_n C (pc' := 13) rfl (D 6 (12, .iload_n 0, 1) rfl) rfl (j := 0) rfl ?_
    refine cv_iload_n C (pc' := 14) rfl (D 7 (13, .iload_n 1, 1) rfl) rfl (j := 1) rfl ?_
    refine cv_mmax C (pc' := 17) rfl wmX0_120 wt_yJ9_max_7cf53 wn_J9 wc_yJ9_max_7cf53 (by decide) (D 8 (14, .invokestatic 120, 3) rfl) (Nat.le_of_ble_eq_true rfl) ?_
    exact cv_iret C Rt rfl (D 9 (17, .ireturn, 1) rfl) ⟨congrArg (fun z => some (Value.int z)) (by rw [b3]; exact cv_mx h2), rfl⟩
  · skip
    refine cv_iload_n C (pc' := 7) rfl (D 3 (6, .iload_n 1, 1) rfl) rfl (j := 1) rfl ?_
    refine cv_bipush C (pc' := 9) rfl (D 4 (7, .bipush (-9), 2) rfl) (v := -9) (by decide) ?_
    refine cv_icmp_neO C (pc' := 12) rfl h2 (tgt := 18) (D 5 (9, .if_icmp .ne 9, 3) rfl) (by decide) (fun z9 b9 => ?_) (fun b9 => ?_)
    · skip
      refine cv_iload_n C (pc' := 19) rfl (D 10 (18, .iload_n 0, 1) rfl) rfl (j := 0) rfl ?_
      refine cv_iload_n C (pc' := 20) rfl (D 11 (19, .iload_n 1, 1) rfl) rfl (j := 1) rfl ?_
      refine cv_mmin C (pc' := 23) rfl wmX0_44 wt_yJ9_min_7cf53 wn_J9 wc_yJ9_min_7cf53 (by decide) (D 12 (20, .invokestatic 44, 3) rfl) (Nat.le_of_ble_eq_true rfl) ?_
      exact cv_iret C Rt rfl (D 13 (23, .ireturn, 1) rfl) ⟨congrArg (fun z => some (Value.int z)) (by rw [b3, b9]; exact cv_mi (h1 _ b3) (h2 _ b9)), rfl⟩
    · skip
      refine cv_iload_n C (pc' := 13) rfl (D 6 (12, .iload_n 0, 1) rfl) rfl (j := 0) rfl ?_
      refine cv_iload_n C (pc' := 14) rfl (D 7 (13, .iload_n 1, 1) rfl) rfl (j := 1) rfl ?_
      refine cv_mmax C (pc' := 17) rfl wmX0_120 wt_yJ9_max_7cf53 wn_J9 wc_yJ9_max_7cf53 (by decide) (D 8 (14, .invokestatic 120, 3) rfl) (Nat.le_of_ble_eq_true rfl) ?_
      exact cv_iret C Rt rfl (D 9 (17, .ireturn, 1) rfl) ⟨congrArg (fun z => some (Value.int z)) (by rw [b3, b9]; exact cv_mx2 (h1 _ b3)), rfl⟩

theorem cv_mn_n (a : Option Nat) : cv_mn a none = a := by cases a <;> rfl
set_option maxHeartbeats 4000000 in
set_option maxRecDepth 100000 in
theorem kX0_holesFrom (L : cv_L) (g : Nat → Option Nat) (d s v : Nat) (σ : cv_St) (hL : cv_LC L σ) (hB : cv_LB L) (hz : ∀ j z, g j = some z → z ≤ 7 - j / 6) (hd : d < 8) (hs : s < 2) (hv : v < 3) (hG : ∀ i, i < 48 → (d < i / 6 ∨ (s = 0 ∧ i / 6 = d ∧ i / 3 % 2 = 1)) → σ 21 i = cv_o (g i)) : cv_Ct yX0_holesFrom cX0_holesFrom 7 (some .int) 2 0 0 26 cv_shC [.ref 10, .int (nI d), .int (nI s), .int (nI v)] σ (cv_pu (.int (cv_o (cv_hf L g d s v))) σ) := by
  refine cv_enter (own := RX0) (by decide) rfl (Nat.le_of_ble_eq_true rfl) ?_
  intro X a C Rt hRm
  have D := @cv_dec _ _ dkX0_holesFrom
  have hn6 := hB.1
  have hg1 := hB.2.2.2 1 (by decide)
  have hg2 := hB.2.2.2 2 (by decide)
  have hgb : ∀ j z, g j = some z → z < 2 ^ 31 := fun j z h => Nat.lt_of_le_of_lt (Nat.le_trans (hz j z h) (Nat.sub_le _ _)) (by decide)
  show cv_At X _ _ σ 0 [(0, .ref 10), (1, .int (nI d)), (2, .int (nI s)), (3, .int (nI v))] []
  have J111 : ∀ (o1 : Option Nat), (¬ (s = 1 ∧ v = 2 ∧ (L 6 2).testBit d = true)) → (o1 = cv_h1 L g d s v) → cv_At X (26, cv_shC, 0, 0, a) 7 σ 111 [(4, .int (cv_o o1)), (0, .ref 10), (1, .int (nI d)), (2, .int (nI s)), (3, .int (nI v))] [] := by
    intro o1 hn1 ho1
    refine cv_iconst C (pc' := 112) rfl (D 66 (111, .iconst 0, 1) rfl) (v := nI 0) (by decide) ?_
    refine cv_istore C (pc' := 114) rfl (D 67 (112, .istore 5, 2) rfl) (by decide) (lv' := [(5, .int (nI 0)), (4, .int (cv_o o1)), (0, .ref 10), (1, .int (nI d)), (2, .int (nI s)), (3, .int (nI v))]) rfl ?_
    rw [ho1]
    refine cv_pick [0, 1, 2, 3, 4, 5] (lv' := [(5, .int (nI 0)), (4, .int (cv_o (cv_hl L g d s v 0))), (0, .ref 10), (1, .int (nI d)), (2, .int (nI s)), (3, .int (nI v))]) rfl ?_
    have LP114 : ∀ (r : Nat) (p : Nat), (p + r = L 7 0) → cv_At X (26, cv_shC, 0, 0, a) 7 σ 114 [(5, .int (nI p)), (4, .int (cv_o (cv_hl L g d s v p))), (0, .ref 10), (1, .int (nI d)), (2, .int (nI s)), (3, .int (nI v))] [] := by
      intro r
      induction r with
      | zero =>
        intro p hr
        refine cv_iload C (pc' := 116) rfl (D 68 (114, .iload 5, 2) rfl) (j := 0) rfl ?_
        refine cv_aload_n C (pc' := 117) rfl (D 69 (116, .aload_n 0, 1) rfl) rfl (j := 2) rfl ?_
        refine cv_get C (pc' := 120) rfl (k0 := 10) (i := 6) (ci := 0) (by decide) rfl rfl (by decide) (o := none) rfl iw_X0 wfX0_50 (D 70 (117, .getfield 50, 3) rfl) (v := .int (nI (L 7 0))) (congrArg Value.int hL.1) ?_
        refine cv_icmp_geN C (pc' := 123) rfl (by omega) (by omega) (tgt := 180) (D 71 (120, .if_icmp .ge 60, 3) rfl) (by decide) (fun b120 => ?_) (fun b120 => ?_)
        · skip
          refine cv_iload C (pc' := 182) rfl (D 101 (180, .iload 4, 2) rfl) (j := 1) rfl ?_
          exact cv_iret C Rt rfl (D 102 (182, .ireturn, 1) rfl) ⟨congrArg (fun z => some (Value.int z)) (by unfold cv_hf; rw [if_neg hn1, show p = L 7 0 by omega]), rfl⟩
        · skip
          omega
      | succ r ih114 =>
        intro p hr
        have hp : p < L 7 0 := by omega
        have hp6 : p < 6 := by omega
        refine cv_iload C (pc' := 116) rfl (D 68 (114, .iload 5, 2) rfl) (j := 0) rfl ?_
        refine cv_aload_n C (pc' := 117) rfl (D 69 (116, .aload_n 0, 1) rfl) rfl (j := 2) rfl ?_
        refine cv_get C (pc' := 120) rfl (k0 := 10) (i := 6) (ci := 0) (by decide) rfl rfl (by decide) (o := none) rfl iw_X0 wfX0_50 (D 70 (117, .getfield 50, 3) rfl) (v := .int (nI (L 7 0))) (congrArg Value.int hL.1) ?_
        refine cv_icmp_geN C (pc' := 123) rfl (by omega) (by omega) (tgt := 180) (D 71 (120, .if_icmp .ge 60, 3) rfl) (by decide) (fun b120 => ?_) (fun b120 => ?_)
        · skip
          omega
        · skip
          refine cv_aload_n C (pc' := 124) rfl (D 72 (123, .aload_n 0, 1) rfl) rfl (j := 2) rfl ?_
          refine cv_aload_n C (pc' := 125) rfl (D 73 (124, .aload_n 0, 1) rfl) rfl (j := 2) rfl ?_
          refine cv_get C (pc' := 128) rfl (k0 := 10) (i := 0) (ci := 0) (by decide) rfl rfl (by decide) (o := some 11) rfl iw_X0 wfX0_11 (D 74 (125, .getfield 11, 3) rfl) rfl ?_
          refine cv_iload C (pc' := 130) rfl (D 75 (128, .iload 5, 2) rfl) (j := 0) rfl ?_
          refine cv_aald C (pc' := 131) rfl (k0 := 11) (j := p) (r := 12 + p) (by decide) rfl rfl rfl (cv_ix_p hp6) (by decide) (D 76 (130, .aaload, 1) rfl) ?_
          refine cv_iload_n C (pc' := 132) rfl (D 77 (131, .iload_n 3, 1) rfl) rfl (j := 5) rfl ?_
          refine cv_iload_n C (pc' := 133) rfl (D 78 (132, .iload_n 1, 1) rfl) rfl (j := 3) rfl ?_
          refine cv_callV C (pc' := 136) rfl (k0 := 10) (ci := 0) (As := [.ref (12 + p), .int (nI v), .int (nI d)]) (rest := []) (idx := 92) (np := 3) (kX0_arrival L p v d σ hL hB hp (by omega) (by omega)) (by decide) rfl rfl rfl (by decide +kernel) rfl wmX0_92 wi_yX0_arrival ws_yX0_arrival wn_X0 wc_yX0_arrival (by decide) (by decide) (D 79 (133, .invokevirtual 92, 3) rfl) (Nat.le_of_ble_eq_true rfl) rfl (fun w9 u9 h9 => ?_)
          rw [h9.1, h9.2]
          show cv_At X _ _ σ 136 _ [.int (cv_o (cv_ar L p v d))]
          refine cv_istore C (pc' := 138) rfl (D 80 (136, .istore 6, 2) rfl) (by decide) (lv' := [(6, .int (cv_o (cv_ar L p v d))), (5, .int (nI p)), (4, .int (cv_o (cv_hl L g d s v p))), (0, .ref 10), (1, .int (nI d)), (2, .int (nI s)), (3, .int (nI v))]) rfl ?_
          refine cv_iload C (pc' := 140) rfl (D 81 (138, .iload 6, 2) rfl) (j := 0) rfl ?_
          refine cv_bipush C (pc' := 142) rfl (D 82 (140, .bipush (-9), 2) rfl) (v := -9) (by decide) ?_
          refine cv_icmp_eqO C (pc' := 145) rfl (fun z h => Nat.lt_of_le_of_lt (cv_ar_le h) (by decide)) (tgt := 174) (D 83 (142, .if_icmp .eq 32, 3) rfl) (by decide) (fun b142 => ?_) (fun z142 b142 => ?_)
          · skip
            refine cv_iincN C (pc' := 177) rfl (D 99 (174, .iinc 5 1, 3) rfl) (j := 1) rfl (by decide) (lv' := [(5, .int (nI (p + 1))), (6, .int (cv_o (cv_ar L p v d))), (4, .int (cv_o (cv_hl L g d s v p))), (0, .ref 10), (1, .int (nI d)), (2, .int (nI s)), (3, .int (nI v))]) rfl ?_
            refine cv_goto C (tgt := 114) (D 100 (177, .goto (-63), 3) rfl) (by decide) ?_
            have hw9 : cv_hl L g d s v p = cv_hl L g d s v (p + 1) := by simp [cv_hl, cv_hc, b142, cv_mn_n]
            rw [hw9]
            refine cv_pick [0, 2, 3, 4, 5, 6] (lv' := [(5, .int (nI (p + 1))), (4, .int (cv_o (cv_hl L g d s v (p + 1)))), (0, .ref 10), (1, .int (nI d)), (2, .int (nI s)), (3, .int (nI v))]) rfl ?_
            exact ih114 (p + 1) (by omega)
          · skip
            have ez142 : cv_o (cv_ar L p v d) = nI z142 := by rw [b142]; rfl
            rw [ez142]
            refine cv_iload C (pc' := 147) rfl (D 84 (145, .iload 4, 2) rfl) (j := 2) rfl ?_
            refine cv_aload_n C (pc' := 148) rfl (D 85 (147, .aload_n 0, 1) rfl) rfl (j := 3) rfl ?_
            refine cv_get C (pc' := 151) rfl (k0 := 10) (i := 4) (ci := 0) (by decide) rfl rfl (by decide) (o := some 21) rfl iw_X0 wfX0_27 (D 86 (148, .getfield 27, 3) rfl) rfl ?_
            refine cv_iload C (pc' := 153) rfl (D 87 (151, .iload 6, 2) rfl) (j := 0) rfl ?_
            refine cv_iload_n C (pc' := 154) rfl (D 88 (153, .iload_n 2, 1) rfl) rfl (j := 5) rfl ?_
            refine cv_aload_n C (pc' := 155) rfl (D 89 (154, .aload_n 0, 1) rfl) rfl (j := 3) rfl ?_
            refine cv_get C (pc' := 158) rfl (k0 := 10) (i := 0) (ci := 0) (by decide) rfl rfl (by decide) (o := some 11) rfl iw_X0 wfX0_11 (D 90 (155, .getfield 11, 3) rfl) rfl ?_
            refine cv_iload C (pc' := 160) rfl (D 91 (158, .iload 5, 2) rfl) (j := 1) rfl ?_
            refine cv_aald C (pc' := 161) rfl (k0 := 11) (j := p) (r := 12 + p) (by decide) rfl rfl rfl (cv_ix_p hp6) (by decide) (D 92 (160, .aaload, 1) rfl) ?_
            refine cv_iload_n C (pc' := 162) rfl (D 93 (161, .iload_n 3, 1) rfl) rfl (j := 6) rfl ?_
            refine cv_callV C (pc' := 165) rfl (k0 := 12 + p) (ci := 1) (As := [.int (nI v)]) (rest := [.int (nI s), .int (nI z142), .ref 21, .int (cv_o (cv_hl L g d s v p))]) (idx := 77) (np := 1) (kX1_otherEnd L p v σ hL hB hp (by omega)) (cv_lt_p hp6) (cv_shC_p hp6) rfl rfl (by decide +kernel) rfl wmX0_77 wi_yX1_otherEnd ws_yX1_otherEnd wn_X1 wc_yX1_otherEnd (by decide) (by decide) (D 94 (162, .invokevirtual 77, 3) rfl) (Nat.le_of_ble_eq_true rfl) rfl (fun w9 u9 h9 => ?_)
            rw [h9.1, h9.2]
            show cv_At X _ _ σ 165 _ [.int (cv_o (cv_oe L p v)), .int (nI s), .int (nI z142), .ref 21, .int (cv_o (cv_hl L g d s v p))]
            obtain ⟨q, hq⟩ : ∃ q, cv_oe L p v = some q := by
              cases ho : cv_oe L p v with
              | some q => exact ⟨q, rfl⟩
              | none => exact absurd b142 (by simp [cv_ar, ho])
            have b142oe := hq
            have hq2 := cv_oe_le hB hp hq
            have hz7 := cv_ar_le b142
            have hz8 := cv_ar_gt hB hp b142
            refine cv_top (w := nI q) (by rw [hq]; rfl) ?_
            refine cv_callS C (pc' := 168) rfl (As := [.int (nI z142), .int (nI s), .int (nI q)]) (rest := [.ref 21, .int (cv_o (cv_hl L g d s v p))]) (idx := 111) (np := 3) (kX0_placeOf z142 s q σ) (by decide +kernel) rfl wmX0_111 wt_yX0_placeOf wn_X0 wc_yX0_placeOf (by decide) (by decide) (D 95 (165, .invokestatic 111, 3) rfl) (Nat.le_of_ble_eq_true rfl) rfl (fun w9 u9 h9 => ?_)
            rw [h9.1, h9.2]
            show cv_At X _ _ σ 168 _ [.int (nI ((z142 * 2 + s) * 3 + q)), .ref 21, .int (cv_o (cv_hl L g d s v p))]
            refine cv_iald C (pc' := 169) rfl (k0 := 21) (j := (z142 * 2 + s) * 3 + q) (by decide) rfl rfl (by omega) (by decide) (D 96 (168, .iaload, 1) rfl) (v := cv_o (g ((z142 * 2 + s) * 3 + q))) (hG _ (by omega) (by omega)) ?_
            refine cv_callS C (pc' := 172) rfl (As := [.int (cv_o (cv_hl L g d s v p)), .int (cv_o (g ((z142 * 2 + s) * 3 + q)))]) (rest := []) (idx := 117) (np := 2) (kX0_fewer (cv_hl L g d s v p) (g ((z142 * 2 + s) * 3 + q)) σ (fun z h => Nat.lt_of_le_of_lt (cv_hl_le hB hz hs hv p (by omega) z h) (by omega)) (hgb _)) (by decide +kernel) rfl wmX0_117 wt_yX0_fewer wn_X0 wc_yX0_fewer (by decide) (by decide) (D 97 (169, .invokestatic 117, 3) rfl) (Nat.le_of_ble_eq_true rfl) rfl (fun w9 u9 h9 => ?_)
            rw [h9.1, h9.2]
            show cv_At X _ _ σ 172 _ [.int (cv_o (cv_mn (cv_hl L g d s v p) (g ((z142 * 2 + s) * 3 + q))))]
            refine cv_istore C (pc' := 174) rfl (D 98 (172, .istore 4, 2) rfl) (by decide) (lv' := [(4, .int (cv_o (cv_mn (cv_hl L g d s v p) (g ((z142 * 2 + s) * 3 + q))))), (6, .int (nI z142)), (5, .int (nI p)), (0, .ref 10), (1, .int (nI d)), (2, .int (nI s)), (3, .int (nI v))]) rfl ?_
            refine cv_iincN C (pc' := 177) rfl (D 99 (174, .iinc 5 1, 3) rfl) (j := 2) rfl (by decide) (lv' := [(5, .int (nI (p + 1))), (4, .int (cv_o (cv_mn (cv_hl L g d s v p) (g ((z142 * 2 + s) * 3 + q))))), (6, .int (nI z142)), (0, .ref 10), (1, .int (nI d)), (2, .int (nI s)), (3, .int (nI v))]) rfl ?_
            refine cv_goto C (tgt := 114) (D 100 (177, .goto (-63), 3) rfl) (by decide) ?_
            have hw9 : cv_mn (cv_hl L g d s v p) (g ((z142 * 2 + s) * 3 + q)) = cv_hl L g d s v (p + 1) := by simp [cv_hl, cv_hc, b142, b142oe]
            rw [hw9]
            refine cv_pick [0, 1, 3, 4, 5, 6] (lv' := [(5, .int (nI (p + 1))), (4, .int (cv_o (cv_hl L g d s v (p + 1)))), (0, .ref 10), (1, .int (nI d)), (2, .int (nI s)), (3, .int (nI v))]) rfl ?_
            exact ih114 (p + 1) (by omega)
    exact LP114 (L 7 0) 0 (by omega)
  have J70 : ∀ (o0 : Option Nat), (¬ (s = 1 ∧ v = 2 ∧ (L 6 2).testBit d = true)) → (o0 = cv_h0 g d s v) → cv_At X (26, cv_shC, 0, 0, a) 7 σ 70 [(4, .int (cv_o o0)), (0, .ref 10), (1, .int (nI d)), (2, .int (nI s)), (3, .int (nI v))] [] := by
    intro o0 hn1 ho0
    refine cv_iload_n C (pc' := 71) rfl (D 43 (70, .iload_n 2, 1) rfl) rfl (j := 3) rfl ?_
    refine cv_iconst C (pc' := 72) rfl (D 44 (71, .iconst 1, 1) rfl) (v := nI 1) (by decide) ?_
    refine cv_icmp_geN C (pc' := 75) rfl (by omega) (by omega) (tgt := 111) (D 45 (72, .if_icmp .ge 39, 3) rfl) (by decide) (fun b72 => ?_) (fun b72 => ?_)
    · skip
      exact J111 o0 hn1 (by unfold cv_h1; rw [if_neg (fun h => by omega), ho0])
    · skip
      refine cv_iload_n C (pc' := 76) rfl (D 46 (75, .iload_n 3, 1) rfl) rfl (j := 4) rfl ?_
      refine cv_iconst C (pc' := 77) rfl (D 47 (76, .iconst 1, 1) rfl) (v := nI 1) (by decide) ?_
      refine cv_icmp_neN C (pc' := 80) rfl (by omega) (by omega) (tgt := 111) (D 48 (77, .if_icmp .ne 34, 3) rfl) (by decide) (fun b77 => ?_) (fun b77 => ?_)
      · skip
        exact J111 o0 hn1 (by unfold cv_h1; rw [if_neg (fun h => by omega), ho0])
      · skip
        refine cv_aload_n C (pc' := 81) rfl (D 49 (80, .aload_n 0, 1) rfl) rfl (j := 1) rfl ?_
        refine cv_get C (pc' := 84) rfl (k0 := 10) (i := 2) (ci := 0) (by decide) rfl rfl (by decide) (o := some 19) rfl iw_X0 wfX0_21 (D 50 (81, .getfield 21, 3) rfl) rfl ?_
        refine cv_iconst C (pc' := 85) rfl (D 51 (84, .iconst 1, 1) rfl) (v := nI 1) (by decide) ?_
        refine cv_iald C (pc' := 86) rfl (k0 := 19) (j := 1) (by decide) rfl rfl (by omega) (by decide) (D 52 (85, .iaload, 1) rfl) (v := nI (L 6 1)) (hL.2.2.1 _ (by omega)) ?_
        refine cv_iload_n C (pc' := 87) rfl (D 53 (86, .iload_n 1, 1) rfl) rfl (j := 2) rfl ?_
        refine cv_callSN C (pc' := 90) rfl (As := [.int (nI (L 6 1)), .int (nI d)]) (rest := []) (idx := 96) (np := 2) (kX6_hasDay (L 6 1) d σ (by omega) (by omega)) (by decide +kernel) rfl weX0_96 wt_yX6_hasDay wn_X6 wc_yX6_hasDay (by decide) (by decide) (D 54 (87, .invokestatic 96, 3) rfl) (Nat.le_of_ble_eq_true rfl) rfl (fun w9 u9 h9 => ?_)
        rw [h9.1, h9.2]
        show cv_At X _ _ σ 90 _ [.int (cv_b ((L 6 1).testBit d))]
        refine cv_if_eqB C (pc' := 93) rfl (tgt := 111) (D 55 (90, .ifCond .eq 21, 3) rfl) (by decide) (fun b90 => ?_) (fun b90 => ?_)
        · skip
          exact J111 o0 hn1 (by unfold cv_h1; rw [if_neg (fun h => by rw [h.2.2] at b90; cases b90), ho0])
        · skip
          refine cv_iload C (pc' := 95) rfl (D 56 (93, .iload 4, 2) rfl) (j := 0) rfl ?_
          refine cv_aload_n C (pc' := 96) rfl (D 57 (95, .aload_n 0, 1) rfl) rfl (j := 1) rfl ?_
          refine cv_get C (pc' := 99) rfl (k0 := 10) (i := 4) (ci := 0) (by decide) rfl rfl (by decide) (o := some 21) rfl iw_X0 wfX0_27 (D 58 (96, .getfield 27, 3) rfl) rfl ?_
          refine cv_iload_n C (pc' := 100) rfl (D 59 (99, .iload_n 1, 1) rfl) rfl (j := 2) rfl ?_
          refine cv_iconst C (pc' := 101) rfl (D 60 (100, .iconst 1, 1) rfl) (v := nI 1) (by decide) ?_
          refine cv_iload_n C (pc' := 102) rfl (D 61 (101, .iload_n 3, 1) rfl) rfl (j := 4) rfl ?_
          refine cv_callS C (pc' := 105) rfl (As := [.int (nI d), .int (nI 1), .int (nI v)]) (rest := [.ref 21, .int (cv_o o0)]) (idx := 111) (np := 3) (kX0_placeOf d 1 v σ) (by decide +kernel) rfl wmX0_111 wt_yX0_placeOf wn_X0 wc_yX0_placeOf (by decide) (by decide) (D 62 (102, .invokestatic 111, 3) rfl) (Nat.le_of_ble_eq_true rfl) rfl (fun w9 u9 h9 => ?_)
          rw [h9.1, h9.2]
          show cv_At X _ _ σ 105 _ [.int (nI ((d * 2 + 1) * 3 + v)), .ref 21, .int (cv_o o0)]
          refine cv_iald C (pc' := 106) rfl (k0 := 21) (j := (d * 2 + 1) * 3 + v) (by decide) rfl rfl (by omega) (by decide) (D 63 (105, .iaload, 1) rfl) (v := cv_o (g ((d * 2 + 1) * 3 + v))) (hG _ (by omega) (by omega)) ?_
          refine cv_callS C (pc' := 109) rfl (As := [.int (cv_o o0), .int (cv_o (g ((d * 2 + 1) * 3 + v)))]) (rest := []) (idx := 117) (np := 2) (kX0_fewer o0 (g ((d * 2 + 1) * 3 + v)) σ (fun z h => Nat.lt_of_le_of_lt (cv_h0_le hz hs hv (ho0 ▸ h)) (by omega)) (hgb _)) (by decide +kernel) rfl wmX0_117 wt_yX0_fewer wn_X0 wc_yX0_fewer (by decide) (by decide) (D 64 (106, .invokestatic 117, 3) rfl) (Nat.le_of_ble_eq_true rfl) rfl (fun w9 u9 h9 => ?_)
          rw [h9.1, h9.2]
          show cv_At X _ _ σ 109 _ [.int (cv_o (cv_mn o0 (g ((d * 2 + 1) * 3 + v))))]
          refine cv_istore C (pc' := 111) rfl (D 65 (109, .istore 4, 2) rfl) (by decide) (lv' := [(4, .int (cv_o (cv_mn o0 (g ((d * 2 + 1) * 3 + v))))), (0, .ref 10), (1, .int (nI d)), (2, .int (nI s)), (3, .int (nI v))]) rfl ?_
          exact J111 (cv_mn o0 (g ((d * 2 + 1) * 3 + v))) hn1 (by unfold cv_h1; rw [if_pos ⟨by omega, by omega, b90⟩, ho0])
  have J25 : (¬ (s = 1 ∧ v = 2 ∧ (L 6 2).testBit d = true)) → cv_At X (26, cv_shC, 0, 0, a) 7 σ 25 [(0, .ref 10), (1, .int (nI d)), (2, .int (nI s)), (3, .int (nI v))] [] := by
    intro hn1
    refine cv_bipush C (pc' := 27) rfl (D 15 (25, .bipush (-9), 2) rfl) (v := -9) (by decide) ?_
    refine cv_istore C (pc' := 29) rfl (D 16 (27, .istore 4, 2) rfl) (by decide) (lv' := [(4, .int (-9)), (0, .ref 10), (1, .int (nI d)), (2, .int (nI s)), (3, .int (nI v))]) rfl ?_
    refine cv_iload_n C (pc' := 30) rfl (D 17 (29, .iload_n 1, 1) rfl) rfl (j := 2) rfl ?_
    refine cv_bipush C (pc' := 32) rfl (D 18 (30, .bipush 7, 2) rfl) (v := nI 7) (by decide) ?_
    refine cv_icmp_geN C (pc' := 35) rfl (by omega) (by omega) (tgt := 70) (D 19 (32, .if_icmp .ge 38, 3) rfl) (by decide) (fun b32 => ?_) (fun b32 => ?_)
    · skip
      exact J70 none hn1 (by unfold cv_h0; rw [if_neg (by omega)])
    · skip
      refine cv_aload_n C (pc' := 36) rfl (D 20 (35, .aload_n 0, 1) rfl) rfl (j := 1) rfl ?_
      refine cv_get C (pc' := 39) rfl (k0 := 10) (i := 4) (ci := 0) (by decide) rfl rfl (by decide) (o := some 21) rfl iw_X0 wfX0_27 (D 21 (36, .getfield 27, 3) rfl) rfl ?_
      refine cv_iload_n C (pc' := 40) rfl (D 22 (39, .iload_n 1, 1) rfl) rfl (j := 2) rfl ?_
      refine cv_iconst C (pc' := 41) rfl (D 23 (40, .iconst 1, 1) rfl) (v := nI 1) (by decide) ?_
      refine cv_iaddN C (pc' := 42) rfl (D 24 (41, .iadd, 1) rfl) ?_
      refine cv_iload_n C (pc' := 43) rfl (D 25 (42, .iload_n 2, 1) rfl) rfl (j := 3) rfl ?_
      refine cv_iload_n C (pc' := 44) rfl (D 26 (43, .iload_n 3, 1) rfl) rfl (j := 4) rfl ?_
      refine cv_callS C (pc' := 47) rfl (As := [.int (nI (d + 1)), .int (nI s), .int (nI v)]) (rest := [.ref 21]) (idx := 111) (np := 3) (kX0_placeOf (d + 1) s v σ) (by decide +kernel) rfl wmX0_111 wt_yX0_placeOf wn_X0 wc_yX0_placeOf (by decide) (by decide) (D 27 (44, .invokestatic 111, 3) rfl) (Nat.le_of_ble_eq_true rfl) rfl (fun w9 u9 h9 => ?_)
      rw [h9.1, h9.2]
      show cv_At X _ _ σ 47 _ [.int (nI (((d + 1) * 2 + s) * 3 + v)), .ref 21]
      refine cv_iald C (pc' := 48) rfl (k0 := 21) (j := ((d + 1) * 2 + s) * 3 + v) (by decide) rfl rfl (by omega) (by decide) (D 28 (47, .iaload, 1) rfl) (v := cv_o (g (((d + 1) * 2 + s) * 3 + v))) (hG _ (by omega) (by omega)) ?_
      refine cv_bipush C (pc' := 50) rfl (D 29 (48, .bipush (-9), 2) rfl) (v := -9) (by decide) ?_
      refine cv_icmp_eqO C (pc' := 53) rfl (hgb _) (tgt := 70) (D 30 (50, .if_icmp .eq 20, 3) rfl) (by decide) (fun b50 => ?_) (fun z50 b50 => ?_)
      · skip
        exact J70 none hn1 (by unfold cv_h0; rw [if_pos (by omega), b50]; rfl)
      · skip
        have hz5 := hz _ _ b50
        refine cv_aload_n C (pc' := 54) rfl (D 31 (53, .aload_n 0, 1) rfl) rfl (j := 1) rfl ?_
        refine cv_get C (pc' := 57) rfl (k0 := 10) (i := 4) (ci := 0) (by decide) rfl rfl (by decide) (o := some 21) rfl iw_X0 wfX0_27 (D 32 (54, .getfield 27, 3) rfl) rfl ?_
        refine cv_iload_n C (pc' := 58) rfl (D 33 (57, .iload_n 1, 1) rfl) rfl (j := 2) rfl ?_
        refine cv_iconst C (pc' := 59) rfl (D 34 (58, .iconst 1, 1) rfl) (v := nI 1) (by decide) ?_
        refine cv_iaddN C (pc' := 60) rfl (D 35 (59, .iadd, 1) rfl) ?_
        refine cv_iload_n C (pc' := 61) rfl (D 36 (60, .iload_n 2, 1) rfl) rfl (j := 3) rfl ?_
        refine cv_iload_n C (pc' := 62) rfl (D 37 (61, .iload_n 3, 1) rfl) rfl (j := 4) rfl ?_
        refine cv_callS C (pc' := 65) rfl (As := [.int (nI (d + 1)), .int (nI s), .int (nI v)]) (rest := [.ref 21]) (idx := 111) (np := 3) (kX0_placeOf (d + 1) s v σ) (by decide +kernel) rfl wmX0_111 wt_yX0_placeOf wn_X0 wc_yX0_placeOf (by decide) (by decide) (D 38 (62, .invokestatic 111, 3) rfl) (Nat.le_of_ble_eq_true rfl) rfl (fun w9 u9 h9 => ?_)
        rw [h9.1, h9.2]
        show cv_At X _ _ σ 65 _ [.int (nI (((d + 1) * 2 + s) * 3 + v)), .ref 21]
        refine cv_iald C (pc' := 66) rfl (k0 := 21) (j := ((d + 1) * 2 + s) * 3 + v) (by decide) rfl rfl (by omega) (by decide) (D 39 (65, .iaload, 1) rfl) (v := nI z50) ((hG _ (by omega) (by omega)).trans (congrArg cv_o b50)) ?_
        refine cv_iconst C (pc' := 67) rfl (D 40 (66, .iconst 1, 1) rfl) (v := nI 1) (by decide) ?_
        refine cv_iaddN C (pc' := 68) rfl (D 41 (67, .iadd, 1) rfl) ?_
        refine cv_istore C (pc' := 70) rfl (D 42 (68, .istore 4, 2) rfl) (by decide) (lv' := [(4, .int (nI (z50 + 1))), (0, .ref 10), (1, .int (nI d)), (2, .int (nI s)), (3, .int (nI v))]) rfl ?_
        exact J70 (some (z50 + 1)) hn1 (by unfold cv_h0; rw [if_pos (by omega), b50]; rfl)
  refine cv_iload_n C (pc' := 1) rfl (D 0 (0, .iload_n 2, 1) rfl) rfl (j := 2) rfl ?_
  refine cv_iconst C (pc' := 2) rfl (D 1 (1, .iconst 1, 1) rfl) (v := nI 1) (by decide) ?_
  refine cv_icmp_neN C (pc' := 5) rfl (by omega) (by omega) (tgt := 25) (D 2 (2, .if_icmp .ne 23, 3) rfl) (by decide) (fun b2 => ?_) (fun b2 => ?_)
  · skip
    exact J25 (fun h => b2 h.1)
  · skip
    refine cv_iload_n C (pc' := 6) rfl (D 3 (5, .iload_n 3, 1) rfl) rfl (j := 3) rfl ?_
    refine cv_iconst C (pc' := 7) rfl (D 4 (6, .iconst 2, 1) rfl) (v := nI 2) (by decide) ?_
    refine cv_icmp_neN C (pc' := 10) rfl (by omega) (by omega) (tgt := 25) (D 5 (7, .if_icmp .ne 18, 3) rfl) (by decide) (fun b7 => ?_) (fun b7 => ?_)
    · skip
      exact J25 (fun h => b7 h.2.1)
    · skip
      refine cv_aload_n C (pc' := 11) rfl (D 6 (10, .aload_n 0, 1) rfl) rfl (j := 0) rfl ?_
      refine cv_get C (pc' := 14) rfl (k0 := 10) (i := 2) (ci := 0) (by decide) rfl rfl (by decide) (o := some 19) rfl iw_X0 wfX0_21 (D 7 (11, .getfield 21, 3) rfl) rfl ?_
      refine cv_iconst C (pc' := 15) rfl (D 8 (14, .iconst 2, 1) rfl) (v := nI 2) (by decide) ?_
      refine cv_iald C (pc' := 16) rfl (k0 := 19) (j := 2) (by decide) rfl rfl (by omega) (by decide) (D 9 (15, .iaload, 1) rfl) (v := nI (L 6 2)) (hL.2.2.1 _ (by omega)) ?_
      refine cv_iload_n C (pc' := 17) rfl (D 10 (16, .iload_n 1, 1) rfl) rfl (j := 1) rfl ?_
      refine cv_callSN C (pc' := 20) rfl (As := [.int (nI (L 6 2)), .int (nI d)]) (rest := []) (idx := 96) (np := 2) (kX6_hasDay (L 6 2) d σ (by omega) (by omega)) (by decide +kernel) rfl weX0_96 wt_yX6_hasDay wn_X6 wc_yX6_hasDay (by decide) (by decide) (D 11 (17, .invokestatic 96, 3) rfl) (Nat.le_of_ble_eq_true rfl) rfl (fun w9 u9 h9 => ?_)
      rw [h9.1, h9.2]
      show cv_At X _ _ σ 20 _ [.int (cv_b ((L 6 2).testBit d))]
      refine cv_if_eqB C (pc' := 23) rfl (tgt := 25) (D 12 (20, .ifCond .eq 5, 3) rfl) (by decide) (fun b20 => ?_) (fun b20 => ?_)
      · skip
        exact J25 (fun h => by rw [h.2.2] at b20; cases b20)
      · skip
        refine cv_iconst C (pc' := 24) rfl (D 13 (23, .iconst 0, 1) rfl) (v := nI 0) (by decide) ?_
        exact cv_iret C Rt rfl (D 14 (24, .ireturn, 1) rfl) ⟨congrArg (fun z => some (Value.int z)) (by unfold cv_hf; rw [if_pos ⟨b2, b7, b20⟩]; rfl), rfl⟩

set_option maxHeartbeats 4000000 in
set_option maxRecDepth 100000 in
theorem kX0_fewestHoles (L : cv_L) (m : Nat) (σ : cv_St) (hL : cv_LC L σ) (hB : cv_LB L) (hm : m < 8) : cv_Ct yX0_fewestHoles cX0_fewestHoles 5 (some .int) 3 0 0 26 cv_shC [.ref 10, .int (nI m)] σ (fun v u => v = some (.int (cv_o (cv_fh L m))) ∧ ∀ k, k ≠ 21 → u k = σ k) := by
  refine cv_enter (own := RX0) (by decide) rfl (Nat.le_of_ble_eq_true rfl) ?_
  intro X a C Rt hRm
  have D := @cv_dec _ _ dkX0_fewestHoles
  have hg0 := hB.2.2.2 0 (by decide)
  show cv_At X _ _ σ 0 [(0, .ref 10), (1, .int (nI m))] []
  refine cv_aload_n C (pc' := 1) rfl (D 0 (0, .aload_n 0, 1) rfl) rfl (j := 0) rfl ?_
  refine cv_get C (pc' := 4) rfl (k0 := 10) (i := 2) (ci := 0) (by decide) rfl rfl (by decide) (o := some 19) rfl iw_X0 wfX0_21 (D 1 (1, .getfield 21, 3) rfl) rfl ?_
  refine cv_iconst C (pc' := 5) rfl (D 2 (4, .iconst 0, 1) rfl) (v := nI 0) (by decide) ?_
  refine cv_iald C (pc' := 6) rfl (k0 := 19) (j := 0) (by decide) rfl rfl (by omega) (by decide) (D 3 (5, .iaload, 1) rfl) (v := nI (L 6 0)) (hL.2.2.1 _ (by omega)) ?_
  refine cv_iload_n C (pc' := 7) rfl (D 4 (6, .iload_n 1, 1) rfl) rfl (j := 1) rfl ?_
  refine cv_callSN C (pc' := 10) rfl (As := [.int (nI (L 6 0)), .int (nI m)]) (rest := []) (idx := 96) (np := 2) (kX6_hasDay (L 6 0) m σ (by omega) (by omega)) (by decide +kernel) rfl weX0_96 wt_yX6_hasDay wn_X6 wc_yX6_hasDay (by decide) (by decide) (D 5 (7, .invokestatic 96, 3) rfl) (Nat.le_of_ble_eq_true rfl) rfl (fun w9 u9 h9 => ?_)
  rw [h9.1, h9.2]
  show cv_At X _ _ σ 10 _ [.int (cv_b ((L 6 0).testBit m))]
  refine cv_if_neB C (pc' := 13) rfl (tgt := 16) (D 6 (10, .ifCond .ne 6, 3) rfl) (by decide) (fun b10 => ?_) (fun b10 => ?_)
  · skip
    refine cv_bipush C (pc' := 18) rfl (D 9 (16, .bipush 7, 2) rfl) (v := nI 7) (by decide) ?_
    refine cv_istore_n C (pc' := 19) rfl (D 10 (18, .istore_n 2, 1) rfl) rfl (by decide) (lv' := [(2, .int (nI 7)), (0, .ref 10), (1, .int (nI m))]) rfl ?_
    have e7 : nI 7 = cv_dn (m + (8 - m)) := by rw [show m + (8 - m) = 8 by omega]; rfl
    rw [e7]
    have LP19 : ∀ (r : Nat) (τ : cv_St), (m + r ≤ 8) → (cv_HO L σ τ (m + r)) → cv_At X (26, cv_shC, 0, 0, a) 5 τ 19 [(2, .int (cv_dn (m + r))), (0, .ref 10), (1, .int (nI m))] [] := by
      intro r
      induction r with
      | zero =>
        intro τ hr hI
        show cv_At X _ _ τ 19 [(2, .int (cv_dn m)), (0, .ref 10), (1, .int (nI m))] []
        refine cv_iload_n C (pc' := 20) rfl (D 11 (19, .iload_n 2, 1) rfl) rfl (j := 0) rfl ?_
        refine cv_iload_n C (pc' := 21) rfl (D 12 (20, .iload_n 1, 1) rfl) rfl (j := 2) rfl ?_
        refine cv_icmp_lt C (pc' := 24) rfl (tgt := 77) (D 13 (21, .if_icmp .lt 56, 3) rfl) (by decide) (fun b21 => ?_) (fun b21 => ?_)
        · skip
          refine cv_aload_n C (pc' := 78) rfl (D 41 (77, .aload_n 0, 1) rfl) rfl (j := 1) rfl ?_
          refine cv_get C (pc' := 81) rfl (k0 := 10) (i := 4) (ci := 0) (by decide) rfl rfl (by decide) (o := some 21) rfl iw_X0 wfX0_27 (D 42 (78, .getfield 27, 3) rfl) rfl ?_
          refine cv_iload_n C (pc' := 82) rfl (D 43 (81, .iload_n 1, 1) rfl) rfl (j := 2) rfl ?_
          refine cv_iconst C (pc' := 83) rfl (D 44 (82, .iconst 0, 1) rfl) (v := nI 0) (by decide) ?_
          refine cv_iconst C (pc' := 84) rfl (D 45 (83, .iconst 0, 1) rfl) (v := nI 0) (by decide) ?_
          refine cv_callS C (pc' := 87) rfl (As := [.int (nI m), .int (nI 0), .int (nI 0)]) (rest := [.ref 21]) (idx := 111) (np := 3) (kX0_placeOf m 0 0 τ) (by decide +kernel) rfl wmX0_111 wt_yX0_placeOf wn_X0 wc_yX0_placeOf (by decide) (by decide) (D 46 (84, .invokestatic 111, 3) rfl) (Nat.le_of_ble_eq_true rfl) rfl (fun w9 u9 h9 => ?_)
          rw [h9.1, h9.2]
          show cv_At X _ _ τ 87 _ [.int (nI ((m * 2 + 0) * 3 + 0)), .ref 21]
          refine cv_iald C (pc' := 88) rfl (k0 := 21) (j := (m * 2 + 0) * 3 + 0) (by decide) rfl rfl (by omega) (by decide) (D 47 (87, .iaload, 1) rfl) (v := cv_o (cv_FT L (8 - m) ((m * 2 + 0) * 3 + 0))) (hI.2 _ (by omega) (by omega)) ?_
          exact cv_iret C Rt rfl (D 48 (88, .ireturn, 1) rfl) ⟨congrArg (fun z => some (Value.int z)) (by unfold cv_fh; rw [if_pos b10]), hI.1⟩
        · skip
          exact absurd (cv_dn_lt (by omega)) b21
      | succ r ih19 =>
        intro τ hr hI
        show cv_At X _ _ τ 19 [(2, .int (nI (m + r))), (0, .ref 10), (1, .int (nI m))] []
        refine cv_iload_n C (pc' := 20) rfl (D 11 (19, .iload_n 2, 1) rfl) rfl (j := 0) rfl ?_
        refine cv_iload_n C (pc' := 21) rfl (D 12 (20, .iload_n 1, 1) rfl) rfl (j := 2) rfl ?_
        refine cv_icmp_ltN C (pc' := 24) rfl (by omega) (by omega) (tgt := 77) (D 13 (21, .if_icmp .lt 56, 3) rfl) (by decide) (fun b21 => ?_) (fun b21 => ?_)
        · skip
          omega
        · skip
          refine cv_iconst C (pc' := 25) rfl (D 14 (24, .iconst 1, 1) rfl) (v := nI 1) (by decide) ?_
          refine cv_istore_n C (pc' := 26) rfl (D 15 (25, .istore_n 3, 1) rfl) rfl (by decide) (lv' := [(3, .int (nI 1)), (2, .int (nI (m + r))), (0, .ref 10), (1, .int (nI m))]) rfl ?_
          refine cv_iload_n C (pc' := 27) rfl (D 16 (26, .iload_n 3, 1) rfl) rfl (j := 0) rfl ?_
          refine cv_if_lt C (pc' := 30) rfl (tgt := 71) (D 17 (27, .ifCond .lt 44, 3) rfl) (by decide) (fun h => absurd h (by decide)) (fun _ => ?_)
          refine cv_iconst C (pc' := 31) rfl (D 18 (30, .iconst 0, 1) rfl) (v := nI 0) (by decide) ?_
          refine cv_istore C (pc' := 33) rfl (D 19 (31, .istore 4, 2) rfl) (by decide) (lv' := [(4, .int (nI 0)), (3, .int (nI 1)), (2, .int (nI (m + r))), (0, .ref 10), (1, .int (nI m))]) rfl ?_
          have LP33 : ∀ (r2 : Nat) (v : Nat) (τ2 : cv_St), (v + r2 = 3) → (cv_HI L (cv_FT L (7 - (m + r))) σ τ2 (m + r) 1 v) → cv_At X (26, cv_shC, 0, 0, a) 5 τ2 33 [(4, .int (nI v)), (3, .int (nI 1)), (2, .int (nI (m + r))), (0, .ref 10), (1, .int (nI m))] [] := by
            intro r2
            induction r2 with
            | zero =>
              intro v τ2 hr2 hI2
              obtain rfl : v = 3 := by omega
              refine cv_iload C (pc' := 35) rfl (D 20 (33, .iload 4, 2) rfl) (j := 0) rfl ?_
              refine cv_iconst C (pc' := 36) rfl (D 21 (35, .iconst 3, 1) rfl) (v := nI 3) (by decide) ?_
              refine cv_icmp_ge C (pc' := 39) rfl (tgt := 65) (D 22 (36, .if_icmp .ge 29, 3) rfl) (by decide) (fun _ => ?_) (fun h => absurd h (by decide))
              refine cv_iinc C (pc' := 68) rfl (D 37 (65, .iinc 3 (-1), 3) rfl) (j := 1) rfl (v := nI 0) (by decide) (by decide) (lv' := [(3, .int (nI 0)), (4, .int (nI 3)), (2, .int (nI (m + r))), (0, .ref 10), (1, .int (nI m))]) rfl ?_
              refine cv_goto C (tgt := 26) (D 38 (68, .goto (-42), 3) rfl) (by decide) ?_
              refine cv_iload_n C (pc' := 27) rfl (D 16 (26, .iload_n 3, 1) rfl) rfl (j := 0) rfl ?_
              refine cv_if_lt C (pc' := 30) rfl (tgt := 71) (D 17 (27, .ifCond .lt 44, 3) rfl) (by decide) (fun h => absurd h (by decide)) (fun _ => ?_)
              refine cv_iconst C (pc' := 31) rfl (D 18 (30, .iconst 0, 1) rfl) (v := nI 0) (by decide) ?_
              refine cv_istore C (pc' := 33) rfl (D 19 (31, .istore 4, 2) rfl) (by decide) (lv' := [(4, .int (nI 0)), (3, .int (nI 0)), (2, .int (nI (m + r))), (0, .ref 10), (1, .int (nI m))]) rfl ?_
              have LP33 : ∀ (r2 : Nat) (v : Nat) (τ2 : cv_St), (v + r2 = 3) → (cv_HI L (cv_F1 L (cv_FT L (7 - (m + r))) (m + r)) σ τ2 (m + r) 0 v) → cv_At X (26, cv_shC, 0, 0, a) 5 τ2 33 [(4, .int (nI v)), (3, .int (nI 0)), (2, .int (nI (m + r))), (0, .ref 10), (1, .int (nI m))] [] := by
                intro r2
                induction r2 with
                | zero =>
                  intro v τ2 hr2 hI2
                  obtain rfl : v = 3 := by omega
                  refine cv_iload C (pc' := 35) rfl (D 20 (33, .iload 4, 2) rfl) (j := 0) rfl ?_
                  refine cv_iconst C (pc' := 36) rfl (D 21 (35, .iconst 3, 1) rfl) (v := nI 3) (by decide) ?_
                  refine cv_icmp_ge C (pc' := 39) rfl (tgt := 65) (D 22 (36, .if_icmp .ge 29, 3) rfl) (by decide) (fun _ => ?_) (fun h => absurd h (by decide))
                  refine cv_iinc C (pc' := 68) rfl (D 37 (65, .iinc 3 (-1), 3) rfl) (j := 1) rfl (v := -1) (by decide) (by decide) (lv' := [(3, .int (-1)), (4, .int (nI 3)), (2, .int (nI (m + r))), (0, .ref 10), (1, .int (nI m))]) rfl ?_
                  refine cv_goto C (tgt := 26) (D 38 (68, .goto (-42), 3) rfl) (by decide) ?_
                  refine cv_iload_n C (pc' := 27) rfl (D 16 (26, .iload_n 3, 1) rfl) rfl (j := 0) rfl ?_
                  refine cv_if_lt C (pc' := 30) rfl (tgt := 71) (D 17 (27, .ifCond .lt 44, 3) rfl) (by decide) (fun _ => ?_) (fun h => absurd h (by decide))
                  refine cv_iinc C (pc' := 74) rfl (D 39 (71, .iinc 2 (-1), 3) rfl) (j := 2) rfl (v := cv_dn (m + r)) (cv_dn_dec (m + r)) (by decide) (lv' := [(2, .int (cv_dn (m + r))), (3, .int (-1)), (4, .int (nI 3)), (0, .ref 10), (1, .int (nI m))]) rfl ?_
                  refine cv_goto C (tgt := 19) (D 40 (74, .goto (-55), 3) rfl) (by decide) ?_
                  refine cv_pick [0, 3, 4] (lv' := [(2, .int (cv_dn (m + r))), (0, .ref 10), (1, .int (nI m))]) rfl ?_
                  exact ih19 τ2 (by omega) (cv_HO_s (by omega) hI2)
                | succ r2 ih33 =>
                  intro v τ2 hr2 hI2
                  have hLτ2 : cv_LC L τ2 := cv_LC_k (fun k _ h _ => hI2.1 k h) hL hB
                  refine cv_iload C (pc' := 35) rfl (D 20 (33, .iload 4, 2) rfl) (j := 0) rfl ?_
                  refine cv_iconst C (pc' := 36) rfl (D 21 (35, .iconst 3, 1) rfl) (v := nI 3) (by decide) ?_
                  refine cv_icmp_geN C (pc' := 39) rfl (by omega) (by omega) (tgt := 65) (D 22 (36, .if_icmp .ge 29, 3) rfl) (by decide) (fun b36 => ?_) (fun b36 => ?_)
                  · skip
                    omega
                  · skip
                    refine cv_aload_n C (pc' := 40) rfl (D 23 (39, .aload_n 0, 1) rfl) rfl (j := 3) rfl ?_
                    refine cv_get C (pc' := 43) rfl (k0 := 10) (i := 4) (ci := 0) (by decide) rfl rfl (by decide) (o := some 21) rfl iw_X0 wfX0_27 (D 24 (40, .getfield 27, 3) rfl) rfl ?_
                    refine cv_iload_n C (pc' := 44) rfl (D 25 (43, .iload_n 2, 1) rfl) rfl (j := 2) rfl ?_
                    refine cv_iload_n C (pc' := 45) rfl (D 26 (44, .iload_n 3, 1) rfl) rfl (j := 1) rfl ?_
                    refine cv_iload C (pc' := 47) rfl (D 27 (45, .iload 4, 2) rfl) (j := 0) rfl ?_
                    refine cv_callS C (pc' := 50) rfl (As := [.int (nI (m + r)), .int (nI 0), .int (nI v)]) (rest := [.ref 21]) (idx := 111) (np := 3) (kX0_placeOf (m + r) 0 v τ2) (by decide +kernel) rfl wmX0_111 wt_yX0_placeOf wn_X0 wc_yX0_placeOf (by decide) (by decide) (D 28 (47, .invokestatic 111, 3) rfl) (Nat.le_of_ble_eq_true rfl) rfl (fun w9 u9 h9 => ?_)
                    rw [h9.1, h9.2]
                    show cv_At X _ _ τ2 50 _ [.int (nI (((m + r) * 2 + 0) * 3 + v)), .ref 21]
                    refine cv_aload_n C (pc' := 51) rfl (D 29 (50, .aload_n 0, 1) rfl) rfl (j := 3) rfl ?_
                    refine cv_iload_n C (pc' := 52) rfl (D 30 (51, .iload_n 2, 1) rfl) rfl (j := 2) rfl ?_
                    refine cv_iload_n C (pc' := 53) rfl (D 31 (52, .iload_n 3, 1) rfl) rfl (j := 1) rfl ?_
                    refine cv_iload C (pc' := 55) rfl (D 32 (53, .iload 4, 2) rfl) (j := 0) rfl ?_
                    refine cv_callV C (pc' := 58) rfl (k0 := 10) (ci := 0) (As := [.int (nI (m + r)), .int (nI 0), .int (nI v)]) (rest := [.int (nI (((m + r) * 2 + 0) * 3 + v)), .ref 21]) (idx := 114) (np := 3) (kX0_holesFrom L (cv_F1 L (cv_FT L (7 - (m + r))) (m + r)) (m + r) 0 v τ2 hLτ2 hB (cv_F1_z hB (cv_FT_z hB _) _) (by omega) (by decide) (by omega) hI2.2.1) (by decide) rfl rfl rfl (by decide +kernel) rfl wmX0_114 wi_yX0_holesFrom ws_yX0_holesFrom wn_X0 wc_yX0_holesFrom (by decide) (by decide) (D 33 (55, .invokevirtual 114, 3) rfl) (Nat.le_of_ble_eq_true rfl) rfl (fun w9 u9 h9 => ?_)
                    rw [h9.1, h9.2]
                    show cv_At X _ _ τ2 58 _ [.int (cv_o (cv_hf L (cv_F1 L (cv_FT L (7 - (m + r))) (m + r)) (m + r) 0 v)), .int (nI (((m + r) * 2 + 0) * 3 + v)), .ref 21]
                    refine cv_iast C (pc' := 59) rfl (k0 := 21) (j := ((m + r) * 2 + 0) * 3 + v) (by decide) rfl rfl (by omega) (by decide) (D 34 (58, .iastore, 1) rfl) ?_
                    refine cv_iincN C (pc' := 62) rfl (D 35 (59, .iinc 4 1, 3) rfl) (j := 0) rfl (by decide) (lv' := [(4, .int (nI (v + 1))), (3, .int (nI 0)), (2, .int (nI (m + r))), (0, .ref 10), (1, .int (nI m))]) rfl ?_
                    refine cv_goto C (tgt := 33) (D 36 (62, .goto (-29), 3) rfl) (by decide) ?_
                    exact ih33 (v + 1) (cv_u τ2 21 (((m + r) * 2 + 0) * 3 + v) (cv_o (cv_hf L (cv_F1 L (cv_FT L (7 - (m + r))) (m + r)) (m + r) 0 v))) (by omega) (cv_HI_s hI2 (by decide) (by omega))
              exact LP33 3 0 τ2 (by decide) (cv_HI_0 hI2)
            | succ r2 ih33 =>
              intro v τ2 hr2 hI2
              have hLτ2 : cv_LC L τ2 := cv_LC_k (fun k _ h _ => hI2.1 k h) hL hB
              refine cv_iload C (pc' := 35) rfl (D 20 (33, .iload 4, 2) rfl) (j := 0) rfl ?_
              refine cv_iconst C (pc' := 36) rfl (D 21 (35, .iconst 3, 1) rfl) (v := nI 3) (by decide) ?_
              refine cv_icmp_geN C (pc' := 39) rfl (by omega) (by omega) (tgt := 65) (D 22 (36, .if_icmp .ge 29, 3) rfl) (by decide) (fun b36 => ?_) (fun b36 => ?_)
              · skip
                omega
              · skip
                refine cv_aload_n C (pc' := 40) rfl (D 23 (39, .aload_n 0, 1) rfl) rfl (j := 3) rfl ?_
                refine cv_get C (pc' := 43) rfl (k0 := 10) (i := 4) (ci := 0) (by decide) rfl rfl (by decide) (o := some 21) rfl iw_X0 wfX0_27 (D 24 (40, .getfield 27, 3) rfl) rfl ?_
                refine cv_iload_n C (pc' := 44) rfl (D 25 (43, .iload_n 2, 1) rfl) rfl (j := 2) rfl ?_
                refine cv_iload_n C (pc' := 45) rfl (D 26 (44, .iload_n 3, 1) rfl) rfl (j := 1) rfl ?_
                refine cv_iload C (pc' := 47) rfl (D 27 (45, .iload 4, 2) rfl) (j := 0) rfl ?_
                refine cv_callS C (pc' := 50) rfl (As := [.int (nI (m + r)), .int (nI 1), .int (nI v)]) (rest := [.ref 21]) (idx := 111) (np := 3) (kX0_placeOf (m + r) 1 v τ2) (by decide +kernel) rfl wmX0_111 wt_yX0_placeOf wn_X0 wc_yX0_placeOf (by decide) (by decide) (D 28 (47, .invokestatic 111, 3) rfl) (Nat.le_of_ble_eq_true rfl) rfl (fun w9 u9 h9 => ?_)
                rw [h9.1, h9.2]
                show cv_At X _ _ τ2 50 _ [.int (nI (((m + r) * 2 + 1) * 3 + v)), .ref 21]
                refine cv_aload_n C (pc' := 51) rfl (D 29 (50, .aload_n 0, 1) rfl) rfl (j := 3) rfl ?_
                refine cv_iload_n C (pc' := 52) rfl (D 30 (51, .iload_n 2, 1) rfl) rfl (j := 2) rfl ?_
                refine cv_iload_n C (pc' := 53) rfl (D 31 (52, .iload_n 3, 1) rfl) rfl (j := 1) rfl ?_
                refine cv_iload C (pc' := 55) rfl (D 32 (53, .iload 4, 2) rfl) (j := 0) rfl ?_
                refine cv_callV C (pc' := 58) rfl (k0 := 10) (ci := 0) (As := [.int (nI (m + r)), .int (nI 1), .int (nI v)]) (rest := [.int (nI (((m + r) * 2 + 1) * 3 + v)), .ref 21]) (idx := 114) (np := 3) (kX0_holesFrom L (cv_FT L (7 - (m + r))) (m + r) 1 v τ2 hLτ2 hB (cv_FT_z hB _) (by omega) (by decide) (by omega) hI2.2.1) (by decide) rfl rfl rfl (by decide +kernel) rfl wmX0_114 wi_yX0_holesFrom ws_yX0_holesFrom wn_X0 wc_yX0_holesFrom (by decide) (by decide) (D 33 (55, .invokevirtual 114, 3) rfl) (Nat.le_of_ble_eq_true rfl) rfl (fun w9 u9 h9 => ?_)
                rw [h9.1, h9.2]
                show cv_At X _ _ τ2 58 _ [.int (cv_o (cv_hf L (cv_FT L (7 - (m + r))) (m + r) 1 v)), .int (nI (((m + r) * 2 + 1) * 3 + v)), .ref 21]
                refine cv_iast C (pc' := 59) rfl (k0 := 21) (j := ((m + r) * 2 + 1) * 3 + v) (by decide) rfl rfl (by omega) (by decide) (D 34 (58, .iastore, 1) rfl) ?_
                refine cv_iincN C (pc' := 62) rfl (D 35 (59, .iinc 4 1, 3) rfl) (j := 0) rfl (by decide) (lv' := [(4, .int (nI (v + 1))), (3, .int (nI 1)), (2, .int (nI (m + r))), (0, .ref 10), (1, .int (nI m))]) rfl ?_
                refine cv_goto C (tgt := 33) (D 36 (62, .goto (-29), 3) rfl) (by decide) ?_
                exact ih33 (v + 1) (cv_u τ2 21 (((m + r) * 2 + 1) * 3 + v) (cv_o (cv_hf L (cv_FT L (7 - (m + r))) (m + r) 1 v))) (by omega) (cv_HI_s hI2 (by decide) (by omega))
          exact LP33 3 0 τ (by decide) (cv_HI_1 hI)
    exact LP19 (8 - m) σ (by omega) (by rw [show m + (8 - m) = 8 by omega]; exact cv_HO_0 L σ)
  · skip
    refine cv_bipush C (pc' := 15) rfl (D 7 (13, .bipush (-9), 2) rfl) (v := -9) (by decide) ?_
    exact cv_iret C Rt rfl (D 8 (15, .ireturn, 1) rfl) ⟨congrArg (fun z => some (Value.int z)) (by unfold cv_fh; rw [b10]; rfl), fun k _ => rfl⟩

