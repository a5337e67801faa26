theorem cv_LC_0 {L : cv_L} {σ : cv_St} {i : Nat} {v : Int32} (hL : cv_LC L σ) (hB : cv_LB L) : cv_LC L (cv_u σ 0 i v) := by
  have h6 := hB.1
  exact ⟨by rw [cv_u_c (by decide)]; exact hL.1, fun d hd => by rw [cv_u_c (by decide)]; exact hL.2.1 d hd, fun v hv => by rw [cv_u_c (by decide)]; exact hL.2.2.1 v hv, fun p hp i hi => by rw [cv_u_c (by omega)]; exact hL.2.2.2 p hp i hi⟩
set_option maxHeartbeats 4000000 in
set_option maxRecDepth 100000 in
theorem pX6_trace (tr : Int32) (ft : Nat) (sl : Nat → Option (Nat × Nat)) (sc : Nat → Nat → Int32) (L : cv_L) (rc : Nat) (rd : Nat → Nat) (rn : Nat → Option Nat)  (σ : cv_St) (hR : cv_RC tr ft sl sc L rc rd rn σ) (hB : cv_LB L) (hDB : cv_DB rc rd rn) : cv_Ct yX6_trace cX6_trace 1 (some .int) 0 0 0 26 cv_shC [.ref 0] σ (fun v u => v = some (.int (tr)) ∧ cv_RC tr ft sl sc L rc rd rn u) := by
  refine cv_enter (own := RX6) (by decide) rfl (Nat.le_of_ble_eq_true rfl) ?_
  intro X a C Rt hRm
  have D := @cv_dec _ _ dkX6_trace
  obtain ⟨hTr, hFt, hSh, hL, hSe, hD⟩ := id hR
  have hn6 := hB.1
  have hrc := hDB.1
  show cv_At X _ _ σ 0 [(0, .ref 0)] []
  refine cv_aload_n C (pc' := 1) rfl (D 0 (0, .aload_n 0, 1) rfl) rfl (j := 0) rfl ?_
  refine cv_get C (pc' := 4) rfl (k0 := 0) (i := 4) (ci := 6) (by decide) rfl rfl (by decide) (o := none) rfl iw_X6 wfX6_228 (D 1 (1, .getfield 228, 3) rfl) (v := .int tr) (congrArg Value.int hTr) ?_
  exact cv_iret C Rt rfl (D 2 (4, .ireturn, 1) rfl) ⟨rfl, hR⟩

set_option maxHeartbeats 4000000 in
set_option maxRecDepth 100000 in
theorem pX6_fault (tr : Int32) (ft : Nat) (sl : Nat → Option (Nat × Nat)) (sc : Nat → Nat → Int32) (L : cv_L) (rc : Nat) (rd : Nat → Nat) (rn : Nat → Option Nat)  (σ : cv_St) (hR : cv_RC tr ft sl sc L rc rd rn σ) (hB : cv_LB L) (hDB : cv_DB rc rd rn) : cv_Ct yX6_fault cX6_fault 1 (some .int) 0 0 0 26 cv_shC [.ref 0] σ (fun v u => v = some (.int (nI ft)) ∧ cv_RC tr ft sl sc L rc rd rn u) := by
  refine cv_enter (own := RX6) (by decide) rfl (Nat.le_of_ble_eq_true rfl) ?_
  intro X a C Rt hRm
  have D := @cv_dec _ _ dkX6_fault
  obtain ⟨hTr, hFt, hSh, hL, hSe, hD⟩ := id hR
  have hn6 := hB.1
  have hrc := hDB.1
  show cv_At X _ _ σ 0 [(0, .ref 0)] []
  refine cv_aload_n C (pc' := 1) rfl (D 0 (0, .aload_n 0, 1) rfl) rfl (j := 0) rfl ?_
  refine cv_get C (pc' := 4) rfl (k0 := 0) (i := 5) (ci := 6) (by decide) rfl rfl (by decide) (o := none) rfl iw_X6 wfX6_39 (D 1 (1, .getfield 39, 3) rfl) (v := .int (nI ft)) (congrArg Value.int hFt) ?_
  exact cv_iret C Rt rfl (D 2 (4, .ireturn, 1) rfl) ⟨rfl, hR⟩

theorem cv_c6 (y : Int32) : y = nI 0 ∨ y = nI 1 ∨ y = nI 2 ∨ y = nI 3 ∨ y = nI 4 ∨ y = nI 5 ∨ (y.toInt < 0 ∨ 5 < y.toInt) := by
  by_cases h : y.toInt < 0 ∨ 5 < y.toInt
  · exact Or.inr (Or.inr (Or.inr (Or.inr (Or.inr (Or.inr h)))))
  · have e : ∀ n : Nat, n < 6 → y.toInt = (n : Int) → y = nI n := fun n hn hy => Int32.toInt_inj.mp (by rw [hy, nI_toInt (by omega)])
    have h2 : y.toInt = 0 ∨ y.toInt = 1 ∨ y.toInt = 2 ∨ y.toInt = 3 ∨ y.toInt = 4 ∨ y.toInt = 5 := by omega
    rcases h2 with h2 | h2 | h2 | h2 | h2 | h2
    · exact Or.inl (e 0 (by decide) h2)
    · exact Or.inr (Or.inl (e 1 (by decide) h2))
    · exact Or.inr (Or.inr (Or.inl (e 2 (by decide) h2)))
    · exact Or.inr (Or.inr (Or.inr (Or.inl (e 3 (by decide) h2))))
    · exact Or.inr (Or.inr (Or.inr (Or.inr (Or.inl (e 4 (by decide) h2)))))
    · exact Or.inr (Or.inr (Or.inr (Or.inr (Or.inr (Or.inl (e 5 (by decide) h2))))))
theorem cv_cn {y : Int32} {lo hi : Int} (h : y.toInt < lo ∨ hi < y.toInt) (k : Int32) (hk : lo ≤ k.toInt ∧ k.toInt ≤ hi) : ¬ y = k := by
  intro e
  subst e
  omega
theorem cv_c6n {y : Int32} (h : y.toInt < 0 ∨ 5 < y.toInt) : ¬ y = 0 ∧ ¬ y = 1 ∧ ¬ y = 2 ∧ ¬ y = 3 ∧ ¬ y = 4 ∧ ¬ y = 5 := ⟨cv_cn h 0 (by decide), cv_cn h 1 (by decide), cv_cn h 2 (by decide), cv_cn h 3 (by decide), cv_cn h 4 (by decide), cv_cn h 5 (by decide)⟩
set_option maxHeartbeats 4000000 in
set_option maxRecDepth 100000 in
theorem pX6_ofPass (tr : Int32) (ft : Nat) (sl : Nat → Option (Nat × Nat)) (sc : Nat → Nat → Int32) (L : cv_L) (rc : Nat) (rd : Nat → Nat) (rn : Nat → Option Nat) (x y : Int32) (σ : cv_St) (hR : cv_RC tr ft sl sc L rc rd rn σ) (hB : cv_LB L) (hDB : cv_DB rc rd rn) : cv_Ct yX6_ofPass cX6_ofPass 4 (some .int) 2 0 0 26 cv_shC [.ref 0, .int x, .int y] σ (fun v u => v = some (.int (cv_a_ofPass L x y)) ∧ cv_RC tr ft sl sc L rc rd rn u) := by
  refine cv_enter (own := RX6) (by decide) rfl (Nat.le_of_ble_eq_true rfl) ?_
  intro X a C Rt hRm
  have D := @cv_dec _ _ dkX6_ofPass
  obtain ⟨hTr, hFt, hSh, hL, hSe, hD⟩ := id hR
  have hn6 := hB.1
  have hrc := hDB.1
  show cv_At X _ _ σ 0 [(0, .ref 0), (1, .int x), (2, .int y)] []
  refine cv_aload_n C (pc' := 1) rfl (D 0 (0, .aload_n 0, 1) rfl) rfl (j := 0) rfl ?_
  refine cv_iload_n C (pc' := 2) rfl (D 1 (1, .iload_n 1, 1) rfl) rfl (j := 1) rfl ?_
  refine cv_callV C (pc' := 5) rfl (k0 := 0) (ci := 6) (As := [.int x]) (rest := []) (idx := 81) (np := 1) (kX6_isPass x L σ hL) (by decide) rfl rfl rfl (by decide +kernel) rfl wmX6_81 wi_yX6_isPass ws_yX6_isPass wn_X6 wc_yX6_isPass (by decide) (by decide) (D 2 (2, .invokevirtual 81, 3) rfl) (Nat.le_of_ble_eq_true rfl) rfl (fun w9 u9 h9 => ?_)
  rw [h9.1, h9.2]
  show cv_At X _ _ σ 5 _ [.int (cv_b (cv_in x (L 7 0)))]
  refine cv_if_neB C (pc' := 8) rfl (tgt := 10) (D 3 (5, .ifCond .ne 5, 3) rfl) (by decide) (fun b5 => ?_) (fun b5 => ?_)
  · skip
    obtain ⟨p, hp, rfl⟩ := cv_in_of b5 (by omega)
    have hp6 : p < 6 := by omega
    refine cv_aload_n C (pc' := 11) rfl (D 6 (10, .aload_n 0, 1) rfl) rfl (j := 0) rfl ?_
    refine cv_get C (pc' := 14) rfl (k0 := 0) (i := 1) (ci := 6) (by decide) rfl rfl (by decide) (o := some 10) rfl iw_X6 wfX6_21 (D 7 (11, .getfield 21, 3) rfl) rfl ?_
    refine cv_get C (pc' := 17) rfl (k0 := 10) (i := 0) (ci := 0) (by decide) rfl rfl (by decide) (o := some 11) rfl iw_X0 wfX6_84 (D 8 (14, .getfield 84, 3) rfl) rfl ?_
    refine cv_iload_n C (pc' := 18) rfl (D 9 (17, .iload_n 1, 1) rfl) rfl (j := 1) rfl ?_
    refine cv_aald C (pc' := 19) rfl (k0 := 11) (j := p) (r := 12 + p) (by decide) rfl rfl rfl (cv_ix_p hp6) (by decide) (D 10 (18, .aaload, 1) rfl) ?_
    refine cv_astore_n C (pc' := 20) rfl (D 11 (19, .astore_n 3, 1) rfl) rfl (by decide) (lv' := [(3, .ref (12 + p)), (0, .ref 0), (1, .int (nI p)), (2, .int y)]) rfl ?_
    refine cv_iload_n C (pc' := 21) rfl (D 12 (20, .iload_n 2, 1) rfl) rfl (j := 3) rfl ?_
    have hy := cv_c6 y
    rcases hy with hy | hy | hy | hy | hy | hy | hy
    · skip
      subst hy
      refine cv_tableIn C (D 13 (21, .tableswitch 69 0 5 #[39, 44, 49, 54, 59, 64], 39) rfl) (tgt := 60) (by decide) (by decide) rfl (by decide) ?_
      refine cv_aload_n C (pc' := 61) rfl (D 14 (60, .aload_n 3, 1) rfl) rfl (j := 0) rfl ?_
      refine cv_get C (pc' := 64) rfl (k0 := 12 + p) (i := 0) (ci := 1) (cv_lt_p hp6) (cv_shC_p hp6) rfl (by decide) (o := none) rfl iw_X1 wfX6_88 (D 15 (61, .getfield 88, 3) rfl) (v := .int (nI (L 0 p))) (congrArg Value.int (hL.2.2.2 p hp 0 (by decide))) ?_
      exact cv_iret C Rt rfl (D 16 (64, .ireturn, 1) rfl) ⟨congrArg (fun z => some (Value.int z)) (by unfold cv_a_ofPass; rw [if_pos b5, cv_nt, nI_clamp (show p < 2 ^ 31 by omega)]; rfl), hR⟩
    · skip
      subst hy
      refine cv_tableIn C (D 13 (21, .tableswitch 69 0 5 #[39, 44, 49, 54, 59, 64], 39) rfl) (tgt := 65) (by decide) (by decide) rfl (by decide) ?_
      refine cv_aload_n C (pc' := 66) rfl (D 17 (65, .aload_n 3, 1) rfl) rfl (j := 0) rfl ?_
      refine cv_get C (pc' := 69) rfl (k0 := 12 + p) (i := 1) (ci := 1) (cv_lt_p hp6) (cv_shC_p hp6) rfl (by decide) (o := none) rfl iw_X1 wfX6_93 (D 18 (66, .getfield 93, 3) rfl) (v := .int (nI (L 1 p))) (congrArg Value.int (hL.2.2.2 p hp 1 (by decide))) ?_
      exact cv_iret C Rt rfl (D 19 (69, .ireturn, 1) rfl) ⟨congrArg (fun z => some (Value.int z)) (by unfold cv_a_ofPass; rw [if_pos b5, cv_nt, nI_clamp (show p < 2 ^ 31 by omega)]; rfl), hR⟩
    · skip
      subst hy
      refine cv_tableIn C (D 13 (21, .tableswitch 69 0 5 #[39, 44, 49, 54, 59, 64], 39) rfl) (tgt := 70) (by decide) (by decide) rfl (by decide) ?_
      refine cv_aload_n C (pc' := 71) rfl (D 20 (70, .aload_n 3, 1) rfl) rfl (j := 0) rfl ?_
      refine cv_get C (pc' := 74) rfl (k0 := 12 + p) (i := 2) (ci := 1) (cv_lt_p hp6) (cv_shC_p hp6) rfl (by decide) (o := none) rfl iw_X1 wfX6_96 (D 21 (71, .getfield 96, 3) rfl) (v := .int (nI (L 2 p))) (congrArg Value.int (hL.2.2.2 p hp 2 (by decide))) ?_
      exact cv_iret C Rt rfl (D 22 (74, .ireturn, 1) rfl) ⟨congrArg (fun z => some (Value.int z)) (by unfold cv_a_ofPass; rw [if_pos b5, cv_nt, nI_clamp (show p < 2 ^ 31 by omega)]; rfl), hR⟩
    · skip
      subst hy
      refine cv_tableIn C (D 13 (21, .tableswitch 69 0 5 #[39, 44, 49, 54, 59, 64], 39) rfl) (tgt := 75) (by decide) (by decide) rfl (by decide) ?_
      refine cv_aload_n C (pc' := 76) rfl (D 23 (75, .aload_n 3, 1) rfl) rfl (j := 0) rfl ?_
      refine cv_get C (pc' := 79) rfl (k0 := 12 + p) (i := 3) (ci := 1) (cv_lt_p hp6) (cv_shC_p hp6) rfl (by decide) (o := none) rfl iw_X1 wfX6_99 (D 24 (76, .getfield 99, 3) rfl) (v := .int (nI (L 3 p))) (congrArg Value.int (hL.2.2.2 p hp 3 (by decide))) ?_
      exact cv_iret C Rt rfl (D 25 (79, .ireturn, 1) rfl) ⟨congrArg (fun z => some (Value.int z)) (by unfold cv_a_ofPass; rw [if_pos b5, cv_nt, nI_clamp (show p < 2 ^ 31 by omega)]; rfl), hR⟩
    · skip
      subst hy
      refine cv_tableIn C (D 13 (21, .tableswitch 69 0 5 #[39, 44, 49, 54, 59, 64], 39) rfl) (tgt := 80) (by decide) (by decide) rfl (by decide) ?_
      refine cv_aload_n C (pc' := 81) rfl (D 26 (80, .aload_n 3, 1) rfl) rfl (j := 0) rfl ?_
      refine cv_get C (pc' := 84) rfl (k0 := 12 + p) (i := 4) (ci := 1) (cv_lt_p hp6) (cv_shC_p hp6) rfl (by decide) (o := none) rfl iw_X1 wfX6_102 (D 27 (81, .getfield 102, 3) rfl) (v := .int (nI (L 4 p))) (congrArg Value.int (hL.2.2.2 p hp 4 (by decide))) ?_
      exact cv_iret C Rt rfl (D 28 (84, .ireturn, 1) rfl) ⟨congrArg (fun z => some (Value.int z)) (by unfold cv_a_ofPass; rw [if_pos b5, cv_nt, nI_clamp (show p < 2 ^ 31 by omega)]; rfl), hR⟩
    · skip
      subst hy
      refine cv_tableIn C (D 13 (21, .tableswitch 69 0 5 #[39, 44, 49, 54, 59, 64], 39) rfl) (tgt := 85) (by decide) (by decide) rfl (by decide) ?_
      refine cv_aload_n C (pc' := 86) rfl (D 29 (85, .aload_n 3, 1) rfl) rfl (j := 0) rfl ?_
      refine cv_callV C (pc' := 89) rfl (k0 := 12 + p) (ci := 1) (As := []) (rest := []) (idx := 105) (np := 0) (kX1_takes L p σ hL hB hp) (cv_lt_p hp6) (cv_shC_p hp6) rfl rfl (by decide +kernel) rfl wmX6_105 wi_yX1_takes ws_yX1_takes wn_X1 wc_yX1_takes (by decide) (by decide) (D 30 (86, .invokevirtual 105, 3) rfl) (Nat.le_of_ble_eq_true rfl) rfl (fun w9 u9 h9 => ?_)
      rw [h9.1, h9.2]
      show cv_At X _ _ σ 89 _ [.int (nI (cv_tk L p))]
      exact cv_iret C Rt rfl (D 31 (89, .ireturn, 1) rfl) ⟨congrArg (fun z => some (Value.int z)) (by unfold cv_a_ofPass; rw [if_pos b5, cv_nt, nI_clamp (show p < 2 ^ 31 by omega)]; rfl), hR⟩
    · skip
      refine cv_tableOut C (D 13 (21, .tableswitch 69 0 5 #[39, 44, 49, 54, 59, 64], 39) rfl) (tgt := 90) hy (by decide) ?_
      refine cv_bipush C (pc' := 92) rfl (D 32 (90, .bipush (-2), 2) rfl) (v := -2) (by decide) ?_
      exact cv_iret C Rt rfl (D 33 (92, .ireturn, 1) rfl) ⟨congrArg (fun z => some (Value.int z)) (by unfold cv_a_ofPass; rw [if_pos b5]; simp [cv_c6n hy]), hR⟩
  · skip
    refine cv_iconst C (pc' := 9) rfl (D 4 (8, .iconst (-1), 1) rfl) (v := -1) (by decide) ?_
    exact cv_iret C Rt rfl (D 5 (9, .ireturn, 1) rfl) ⟨congrArg (fun z => some (Value.int z)) (by unfold cv_a_ofPass; rw [b5]; rfl), hR⟩

set_option maxHeartbeats 4000000 in
set_option maxRecDepth 100000 in
theorem pX6_snow (tr : Int32) (ft : Nat) (sl : Nat → Option (Nat × Nat)) (sc : Nat → Nat → Int32) (L : cv_L) (rc : Nat) (rd : Nat → Nat) (rn : Nat → Option Nat) (x y : Int32) (σ : cv_St) (hR : cv_RC tr ft sl sc L rc rd rn σ) (hB : cv_LB L) (hDB : cv_DB rc rd rn) : cv_Ct yX6_snow cX6_snow 4 (some .int) 2 0 0 26 cv_shC [.ref 0, .int x, .int y] σ (fun v u => v = some (.int (cv_a_snow L x y)) ∧ cv_RC tr ft sl sc (cv_n_snow L x y) rc rd rn u) := by
  refine cv_enter (own := RX6) (by decide) rfl (Nat.le_of_ble_eq_true rfl) ?_
  intro X a C Rt hRm
  have D := @cv_dec _ _ dkX6_snow
  obtain ⟨hTr, hFt, hSh, hL, hSe, hD⟩ := id hR
  have hn6 := hB.1
  have hrc := hDB.1
  show cv_At X _ _ σ 0 [(0, .ref 0), (1, .int x), (2, .int y)] []
  refine cv_iload_n C (pc' := 1) rfl (D 0 (0, .iload_n 1, 1) rfl) rfl (j := 1) rfl ?_
  refine cv_callS C (pc' := 4) rfl (As := [.int x]) (rest := []) (idx := 108) (np := 1) (kX6_isDay x σ) (by decide +kernel) rfl wmX6_108 wt_yX6_isDay wn_X6 wc_yX6_isDay (by decide) (by decide) (D 1 (1, .invokestatic 108, 3) rfl) (Nat.le_of_ble_eq_true rfl) rfl (fun w9 u9 h9 => ?_)
  rw [h9.1, h9.2]
  show cv_At X _ _ σ 4 _ [.int (cv_b (cv_in x 8))]
  refine cv_if_eqB C (pc' := 7) rfl (tgt := 16) (D 2 (4, .ifCond .eq 12, 3) rfl) (by decide) (fun b4 => ?_) (fun b4 => ?_)
  · skip
    refine cv_bipush C (pc' := 18) rfl (D 7 (16, .bipush (-2), 2) rfl) (v := -2) (by decide) ?_
    exact cv_iret C Rt rfl (D 8 (18, .ireturn, 1) rfl) ⟨congrArg (fun z => some (Value.int z)) (by unfold cv_a_snow; rw [if_neg (by simp [b4])]), by unfold cv_n_snow; rw [if_neg (by simp [b4])]; exact hR⟩
  · skip
    refine cv_iload_n C (pc' := 8) rfl (D 3 (7, .iload_n 2, 1) rfl) rfl (j := 2) rfl ?_
    refine cv_bipush C (pc' := 10) rfl (D 4 (8, .bipush 10, 2) rfl) (v := nI 10) (by decide) ?_
    refine cv_callS C (pc' := 13) rfl (As := [.int y, .int (nI 10)]) (rest := []) (idx := 111) (np := 2) (kX6_isBelow y 10 σ) (by decide +kernel) rfl wmX6_111 wt_yX6_isBelow wn_X6 wc_yX6_isBelow (by decide) (by decide) (D 5 (10, .invokestatic 111, 3) rfl) (Nat.le_of_ble_eq_true rfl) rfl (fun w9 u9 h9 => ?_)
    rw [h9.1, h9.2]
    show cv_At X _ _ σ 13 _ [.int (cv_b (cv_in y 10))]
    refine cv_if_neB C (pc' := 16) rfl (tgt := 19) (D 6 (13, .ifCond .ne 6, 3) rfl) (by decide) (fun b13 => ?_) (fun b13 => ?_)
    · skip
      obtain ⟨j, hj, rfl⟩ := cv_in_of b4 (by omega)
      obtain ⟨w, hw, rfl⟩ := cv_in_of b13 (by omega)
      refine cv_aload_n C (pc' := 20) rfl (D 9 (19, .aload_n 0, 1) rfl) rfl (j := 0) rfl ?_
      refine cv_get C (pc' := 23) rfl (k0 := 0) (i := 1) (ci := 6) (by decide) rfl rfl (by decide) (o := some 10) rfl iw_X6 wfX6_21 (D 10 (20, .getfield 21, 3) rfl) rfl ?_
      refine cv_get C (pc' := 26) rfl (k0 := 10) (i := 5) (ci := 0) (by decide) rfl rfl (by decide) (o := none) rfl iw_X0 wfX6_115 (D 11 (23, .getfield 115, 3) rfl) (v := .int (cv_b (decide (0 < L 7 0)))) (congrArg Value.int hSe) ?_
      refine cv_if_neB C (pc' := 29) rfl (tgt := 32) (D 12 (26, .ifCond .ne 6, 3) rfl) (by decide) (fun b26 => ?_) (fun b26 => ?_)
      · skip
        refine cv_aload_n C (pc' := 33) rfl (D 15 (32, .aload_n 0, 1) rfl) rfl (j := 0) rfl ?_
        refine cv_get C (pc' := 36) rfl (k0 := 0) (i := 1) (ci := 6) (by decide) rfl rfl (by decide) (o := some 10) rfl iw_X6 wfX6_21 (D 16 (33, .getfield 21, 3) rfl) rfl ?_
        refine cv_get C (pc' := 39) rfl (k0 := 10) (i := 1) (ci := 0) (by decide) rfl rfl (by decide) (o := some 18) rfl iw_X0 wfX6_119 (D 17 (36, .getfield 119, 3) rfl) rfl ?_
        refine cv_iload_n C (pc' := 40) rfl (D 18 (39, .iload_n 1, 1) rfl) rfl (j := 1) rfl ?_
        refine cv_iald C (pc' := 41) rfl (k0 := 18) (j := j) (by decide) rfl rfl (by omega) (by decide) (D 19 (40, .iaload, 1) rfl) (v := nI (L 5 j)) (hL.2.1 _ (by omega)) ?_
        refine cv_istore_n C (pc' := 42) rfl (D 20 (41, .istore_n 3, 1) rfl) rfl (by decide) (lv' := [(3, .int (nI (L 5 j))), (0, .ref 0), (1, .int (nI j)), (2, .int (nI w))]) rfl ?_
        refine cv_aload_n C (pc' := 43) rfl (D 21 (42, .aload_n 0, 1) rfl) rfl (j := 1) rfl ?_
        refine cv_get C (pc' := 46) rfl (k0 := 0) (i := 1) (ci := 6) (by decide) rfl rfl (by decide) (o := some 10) rfl iw_X6 wfX6_21 (D 22 (43, .getfield 21, 3) rfl) rfl ?_
        refine cv_get C (pc' := 49) rfl (k0 := 10) (i := 1) (ci := 0) (by decide) rfl rfl (by decide) (o := some 18) rfl iw_X0 wfX6_119 (D 23 (46, .getfield 119, 3) rfl) rfl ?_
        refine cv_iload_n C (pc' := 50) rfl (D 24 (49, .iload_n 1, 1) rfl) rfl (j := 2) rfl ?_
        refine cv_iload_n C (pc' := 51) rfl (D 25 (50, .iload_n 2, 1) rfl) rfl (j := 3) rfl ?_
        refine cv_iast C (pc' := 52) rfl (k0 := 18) (j := j) (by decide) rfl rfl (by omega) (by decide) (D 26 (51, .iastore, 1) rfl) ?_
        refine cv_iload_n C (pc' := 53) rfl (D 27 (52, .iload_n 3, 1) rfl) rfl (j := 0) rfl ?_
        exact cv_iret C Rt rfl (D 28 (53, .ireturn, 1) rfl) ⟨congrArg (fun z => some (Value.int z)) (by unfold cv_a_snow; rw [if_pos ⟨b4, b13⟩, if_pos (by simpa using b26), cv_nt, nI_clamp (by omega)]), by unfold cv_n_snow; rw [if_pos ⟨b4, b13, by simpa using b26⟩, cv_nt, nI_clamp (by omega), cv_nt, nI_clamp (by omega)]; exact cv_RC_L (fun k hk => cv_u_c (by omega)) (by rw [cv_u_c (by decide)]) (cv_lu_k (by decide)) (cv_LC_snow hL hB j w) hR⟩
      · skip
        refine cv_bipush C (pc' := 31) rfl (D 13 (29, .bipush (-3), 2) rfl) (v := -3) (by decide) ?_
        exact cv_iret C Rt rfl (D 14 (31, .ireturn, 1) rfl) ⟨congrArg (fun z => some (Value.int z)) (by unfold cv_a_snow; rw [if_pos ⟨b4, b13⟩, if_neg (by simpa using b26)]), by unfold cv_n_snow; rw [if_neg (fun h => by simp at b26; omega)]; exact hR⟩
    · skip
      refine cv_bipush C (pc' := 18) rfl (D 7 (16, .bipush (-2), 2) rfl) (v := -2) (by decide) ?_
      exact cv_iret C Rt rfl (D 8 (18, .ireturn, 1) rfl) ⟨congrArg (fun z => some (Value.int z)) (by unfold cv_a_snow; rw [if_neg (by simp [b13])]), by unfold cv_n_snow; rw [if_neg (by simp [b13])]; exact hR⟩

set_option maxHeartbeats 4000000 in
set_option maxRecDepth 100000 in
theorem pX6_give (tr : Int32) (ft : Nat) (sl : Nat → Option (Nat × Nat)) (sc : Nat → Nat → Int32) (L : cv_L) (rc : Nat) (rd : Nat → Nat) (rn : Nat → Option Nat) (x y : Int32) (σ : cv_St) (hR : cv_RC tr ft sl sc L rc rd rn σ) (hB : cv_LB L) (hDB : cv_DB rc rd rn) : cv_Ct yX6_give cX6_give 4 (some .int) 2 0 0 26 cv_shC [.ref 0, .int x, .int y] σ (fun v u => v = some (.int (cv_a_give L x y)) ∧ cv_RC tr ft sl sc (cv_n_give L x y) rc rd rn u) := by
  refine cv_enter (own := RX6) (by decide) rfl (Nat.le_of_ble_eq_true rfl) ?_
  intro X a C Rt hRm
  have D := @cv_dec _ _ dkX6_give
  obtain ⟨hTr, hFt, hSh, hL, hSe, hD⟩ := id hR
  have hn6 := hB.1
  have hrc := hDB.1
  show cv_At X _ _ σ 0 [(0, .ref 0), (1, .int x), (2, .int y)] []
  refine cv_iload_n C (pc' := 1) rfl (D 0 (0, .iload_n 1, 1) rfl) rfl (j := 1) rfl ?_
  refine cv_callS C (pc' := 4) rfl (As := [.int x]) (rest := []) (idx := 122) (np := 1) (kX6_isValley x σ) (by decide +kernel) rfl wmX6_122 wt_yX6_isValley wn_X6 wc_yX6_isValley (by decide) (by decide) (D 1 (1, .invokestatic 122, 3) rfl) (Nat.le_of_ble_eq_true rfl) rfl (fun w9 u9 h9 => ?_)
  rw [h9.1, h9.2]
  show cv_At X _ _ σ 4 _ [.int (cv_b (cv_in x 3))]
  refine cv_if_neB C (pc' := 7) rfl (tgt := 9) (D 2 (4, .ifCond .ne 5, 3) rfl) (by decide) (fun b4 => ?_) (fun b4 => ?_)
  · skip
    refine cv_iload_n C (pc' := 10) rfl (D 5 (9, .iload_n 2, 1) rfl) rfl (j := 2) rfl ?_
    refine cv_sipush C (pc' := 13) rfl (D 6 (10, .sipush 256, 3) rfl) (v := nI 256) (by decide) ?_
    refine cv_callS C (pc' := 16) rfl (As := [.int y, .int (nI 256)]) (rest := []) (idx := 111) (np := 2) (kX6_isBelow y 256 σ) (by decide +kernel) rfl wmX6_111 wt_yX6_isBelow wn_X6 wc_yX6_isBelow (by decide) (by decide) (D 7 (13, .invokestatic 111, 3) rfl) (Nat.le_of_ble_eq_true rfl) rfl (fun w9 u9 h9 => ?_)
    rw [h9.1, h9.2]
    show cv_At X _ _ σ 16 _ [.int (cv_b (cv_in y 256))]
    refine cv_if_neB C (pc' := 19) rfl (tgt := 22) (D 8 (16, .ifCond .ne 6, 3) rfl) (by decide) (fun b16 => ?_) (fun b16 => ?_)
    · skip
      obtain ⟨j, hj, rfl⟩ := cv_in_of b4 (by omega)
      obtain ⟨w, hw, rfl⟩ := cv_in_of b16 (by omega)
      refine cv_aload_n C (pc' := 23) rfl (D 11 (22, .aload_n 0, 1) rfl) rfl (j := 0) rfl ?_
      refine cv_get C (pc' := 26) rfl (k0 := 0) (i := 1) (ci := 6) (by decide) rfl rfl (by decide) (o := some 10) rfl iw_X6 wfX6_21 (D 12 (23, .getfield 21, 3) rfl) rfl ?_
      refine cv_get C (pc' := 29) rfl (k0 := 10) (i := 5) (ci := 0) (by decide) rfl rfl (by decide) (o := none) rfl iw_X0 wfX6_115 (D 13 (26, .getfield 115, 3) rfl) (v := .int (cv_b (decide (0 < L 7 0)))) (congrArg Value.int hSe) ?_
      refine cv_if_neB C (pc' := 32) rfl (tgt := 35) (D 14 (29, .ifCond .ne 6, 3) rfl) (by decide) (fun b29 => ?_) (fun b29 => ?_)
      · skip
        refine cv_aload_n C (pc' := 36) rfl (D 17 (35, .aload_n 0, 1) rfl) rfl (j := 0) rfl ?_
        refine cv_get C (pc' := 39) rfl (k0 := 0) (i := 1) (ci := 6) (by decide) rfl rfl (by decide) (o := some 10) rfl iw_X6 wfX6_21 (D 18 (36, .getfield 21, 3) rfl) rfl ?_
        refine cv_get C (pc' := 42) rfl (k0 := 10) (i := 2) (ci := 0) (by decide) rfl rfl (by decide) (o := some 19) rfl iw_X0 wfX6_125 (D 19 (39, .getfield 125, 3) rfl) rfl ?_
        refine cv_iload_n C (pc' := 43) rfl (D 20 (42, .iload_n 1, 1) rfl) rfl (j := 1) rfl ?_
        refine cv_iald C (pc' := 44) rfl (k0 := 19) (j := j) (by decide) rfl rfl (by omega) (by decide) (D 21 (43, .iaload, 1) rfl) (v := nI (L 6 j)) (hL.2.2.1 _ (by omega)) ?_
        refine cv_istore_n C (pc' := 45) rfl (D 22 (44, .istore_n 3, 1) rfl) rfl (by decide) (lv' := [(3, .int (nI (L 6 j))), (0, .ref 0), (1, .int (nI j)), (2, .int (nI w))]) rfl ?_
        refine cv_aload_n C (pc' := 46) rfl (D 23 (45, .aload_n 0, 1) rfl) rfl (j := 1) rfl ?_
        refine cv_get C (pc' := 49) rfl (k0 := 0) (i := 1) (ci := 6) (by decide) rfl rfl (by decide) (o := some 10) rfl iw_X6 wfX6_21 (D 24 (46, .getfield 21, 3) rfl) rfl ?_
        refine cv_get C (pc' := 52) rfl (k0 := 10) (i := 2) (ci := 0) (by decide) rfl rfl (by decide) (o := some 19) rfl iw_X0 wfX6_125 (D 25 (49, .getfield 125, 3) rfl) rfl ?_
        refine cv_iload_n C (pc' := 53) rfl (D 26 (52, .iload_n 1, 1) rfl) rfl (j := 2) rfl ?_
        refine cv_iload_n C (pc' := 54) rfl (D 27 (53, .iload_n 2, 1) rfl) rfl (j := 3) rfl ?_
        refine cv_iast C (pc' := 55) rfl (k0 := 19) (j := j) (by decide) rfl rfl (by omega) (by decide) (D 28 (54, .iastore, 1) rfl) ?_
        refine cv_iload_n C (pc' := 56) rfl (D 29 (55, .iload_n 3, 1) rfl) rfl (j := 0) rfl ?_
        exact cv_iret C Rt rfl (D 30 (56, .ireturn, 1) rfl) ⟨congrArg (fun z => some (Value.int z)) (by unfold cv_a_give; rw [if_pos b4, if_pos b16, if_pos (by simpa using b29), cv_nt, nI_clamp (by omega)]), by unfold cv_n_give; rw [if_pos ⟨b4, b16, by simpa using b29⟩, cv_nt, nI_clamp (by omega), cv_nt, nI_clamp (by omega)]; exact cv_RC_L (fun k hk => cv_u_c (by omega)) (by rw [cv_u_c (by decide)]) (cv_lu_k (by decide)) (cv_LC_give hL hB j w) hR⟩
      · skip
        refine cv_bipush C (pc' := 34) rfl (D 15 (32, .bipush (-3), 2) rfl) (v := -3) (by decide) ?_
        exact cv_iret C Rt rfl (D 16 (34, .ireturn, 1) rfl) ⟨congrArg (fun z => some (Value.int z)) (by unfold cv_a_give; rw [if_pos b4, if_pos b16, if_neg (by simpa using b29)]), by unfold cv_n_give; rw [if_neg (fun h => by simp at b29; omega)]; exact hR⟩
    · skip
      refine cv_bipush C (pc' := 21) rfl (D 9 (19, .bipush (-2), 2) rfl) (v := -2) (by decide) ?_
      exact cv_iret C Rt rfl (D 10 (21, .ireturn, 1) rfl) ⟨congrArg (fun z => some (Value.int z)) (by unfold cv_a_give; rw [if_pos b4, if_neg (by simp [b16])]), by unfold cv_n_give; rw [if_neg (by simp [b16])]; exact hR⟩
  · skip
    refine cv_iconst C (pc' := 8) rfl (D 3 (7, .iconst (-1), 1) rfl) (v := -1) (by decide) ?_
    exact cv_iret C Rt rfl (D 4 (8, .ireturn, 1) rfl) ⟨congrArg (fun z => some (Value.int z)) (by unfold cv_a_give; rw [if_neg (by simp [b4])]), by unfold cv_n_give; rw [if_neg (by simp [b4])]; exact hR⟩

set_option maxHeartbeats 4000000 in
set_option maxRecDepth 100000 in
theorem pX6_open (tr : Int32) (ft : Nat) (sl : Nat → Option (Nat × Nat)) (sc : Nat → Nat → Int32) (L : cv_L) (rc : Nat) (rd : Nat → Nat) (rn : Nat → Option Nat) (x : Int32) (σ : cv_St) (hR : cv_RC tr ft sl sc L rc rd rn σ) (hB : cv_LB L) (hDB : cv_DB rc rd rn) : cv_Ct yX6_open cX6_open 4 (some .int) 2 0 0 26 cv_shC [.ref 0, .int x] σ (fun v u => v = some (.int (cv_a_open L x)) ∧ cv_RC tr ft sl sc L rc rd rn u) := by
  refine cv_enter (own := RX6) (by decide) rfl (Nat.le_of_ble_eq_true rfl) ?_
  intro X a C Rt hRm
  have D := @cv_dec _ _ dkX6_open
  obtain ⟨hTr, hFt, hSh, hL, hSe, hD⟩ := id hR
  have hn6 := hB.1
  have hrc := hDB.1
  show cv_At X _ _ σ 0 [(0, .ref 0), (1, .int x)] []
  refine cv_iload_n C (pc' := 1) rfl (D 0 (0, .iload_n 1, 1) rfl) rfl (j := 1) rfl ?_
  refine cv_callS C (pc' := 4) rfl (As := [.int x]) (rest := []) (idx := 108) (np := 1) (kX6_isDay x σ) (by decide +kernel) rfl wmX6_108 wt_yX6_isDay wn_X6 wc_yX6_isDay (by decide) (by decide) (D 1 (1, .invokestatic 108, 3) rfl) (Nat.le_of_ble_eq_true rfl) rfl (fun w9 u9 h9 => ?_)
  rw [h9.1, h9.2]
  show cv_At X _ _ σ 4 _ [.int (cv_b (cv_in x 8))]
  refine cv_if_neB C (pc' := 7) rfl (tgt := 10) (D 2 (4, .ifCond .ne 6, 3) rfl) (by decide) (fun b4 => ?_) (fun b4 => ?_)
  · skip
    obtain ⟨j, hj, rfl⟩ := cv_in_of b4 (by omega)
    refine cv_aload_n C (pc' := 11) rfl (D 5 (10, .aload_n 0, 1) rfl) rfl (j := 0) rfl ?_
    refine cv_get C (pc' := 14) rfl (k0 := 0) (i := 1) (ci := 6) (by decide) rfl rfl (by decide) (o := some 10) rfl iw_X6 wfX6_21 (D 6 (11, .getfield 21, 3) rfl) rfl ?_
    refine cv_get C (pc' := 17) rfl (k0 := 10) (i := 5) (ci := 0) (by decide) rfl rfl (by decide) (o := none) rfl iw_X0 wfX6_115 (D 7 (14, .getfield 115, 3) rfl) (v := .int (cv_b (decide (0 < L 7 0)))) (congrArg Value.int hSe) ?_
    refine cv_if_neB C (pc' := 20) rfl (tgt := 23) (D 8 (17, .ifCond .ne 6, 3) rfl) (by decide) (fun b17 => ?_) (fun b17 => ?_)
    · skip
      refine cv_iconst C (pc' := 24) rfl (D 11 (23, .iconst 0, 1) rfl) (v := nI 0) (by decide) ?_
      refine cv_istore_n C (pc' := 25) rfl (D 12 (24, .istore_n 2, 1) rfl) rfl (by decide) (lv' := [(2, .int (nI 0)), (0, .ref 0), (1, .int (nI j))]) rfl ?_
      refine cv_iconst C (pc' := 26) rfl (D 13 (25, .iconst 0, 1) rfl) (v := nI 0) (by decide) ?_
      refine cv_istore_n C (pc' := 27) rfl (D 14 (26, .istore_n 3, 1) rfl) rfl (by decide) (lv' := [(3, .int (nI 0)), (2, .int (nI 0)), (0, .ref 0), (1, .int (nI j))]) rfl ?_
      refine cv_pick [0, 1, 2, 3] (lv' := [(3, .int (nI 0)), (2, .int (nI (cv_sb (fun p => cv_op L p j) 0))), (0, .ref 0), (1, .int (nI j))]) rfl ?_
      have LP27 : ∀ (r : Nat) (p : Nat), (p + r = L 7 0) → cv_At X (26, cv_shC, 0, 0, a) 4 σ 27 [(3, .int (nI p)), (2, .int (nI (cv_sb (fun p => cv_op L p j) p))), (0, .ref 0), (1, .int (nI j))] [] := by
        intro r
        induction r with
        | zero =>
          intro p hr
          refine cv_iload_n C (pc' := 28) rfl (D 15 (27, .iload_n 3, 1) rfl) rfl (j := 0) rfl ?_
          refine cv_aload_n C (pc' := 29) rfl (D 16 (28, .aload_n 0, 1) rfl) rfl (j := 2) rfl ?_
          refine cv_get C (pc' := 32) rfl (k0 := 0) (i := 1) (ci := 6) (by decide) rfl rfl (by decide) (o := some 10) rfl iw_X6 wfX6_21 (D 17 (29, .getfield 21, 3) rfl) rfl ?_
          refine cv_get C (pc' := 35) rfl (k0 := 10) (i := 6) (ci := 0) (by decide) rfl rfl (by decide) (o := none) rfl iw_X0 wfX6_78 (D 18 (32, .getfield 78, 3) rfl) (v := .int (nI (L 7 0))) (congrArg Value.int hL.1) ?_
          refine cv_icmp_geN C (pc' := 38) rfl (by omega) (by omega) (tgt := 74) (D 19 (35, .if_icmp .ge 39, 3) rfl) (by decide) (fun b35 => ?_) (fun b35 => ?_)
          · skip
            refine cv_iload_n C (pc' := 75) rfl (D 40 (74, .iload_n 2, 1) rfl) rfl (j := 1) rfl ?_
            exact cv_iret C Rt rfl (D 41 (75, .ireturn, 1) rfl) ⟨congrArg (fun z => some (Value.int z)) (by unfold cv_a_open cv_day; rw [if_pos b4, if_pos (by simpa using b17), cv_nt, nI_clamp (by omega)]; rw [show p = L 7 0 by omega]), hR⟩
          · skip
            omega
        | succ r ih27 =>
          intro p hr
          have hp : p < L 7 0 := by omega
          have hp6 : p < 6 := by omega
          refine cv_iload_n C (pc' := 28) rfl (D 15 (27, .iload_n 3, 1) rfl) rfl (j := 0) rfl ?_
          refine cv_aload_n C (pc' := 29) rfl (D 16 (28, .aload_n 0, 1) rfl) rfl (j := 2) rfl ?_
          refine cv_get C (pc' := 32) rfl (k0 := 0) (i := 1) (ci := 6) (by decide) rfl rfl (by decide) (o := some 10) rfl iw_X6 wfX6_21 (D 17 (29, .getfield 21, 3) rfl) rfl ?_
          refine cv_get C (pc' := 35) rfl (k0 := 10) (i := 6) (ci := 0) (by decide) rfl rfl (by decide) (o := none) rfl iw_X0 wfX6_78 (D 18 (32, .getfield 78, 3) rfl) (v := .int (nI (L 7 0))) (congrArg Value.int hL.1) ?_
          refine cv_icmp_geN C (pc' := 38) rfl (by omega) (by omega) (tgt := 74) (D 19 (35, .if_icmp .ge 39, 3) rfl) (by decide) (fun b35 => ?_) (fun b35 => ?_)
          · skip
            omega
          · skip
            refine cv_aload_n C (pc' := 39) rfl (D 20 (38, .aload_n 0, 1) rfl) rfl (j := 2) rfl ?_
            refine cv_get C (pc' := 42) rfl (k0 := 0) (i := 1) (ci := 6) (by decide) rfl rfl (by decide) (o := some 10) rfl iw_X6 wfX6_21 (D 21 (39, .getfield 21, 3) rfl) rfl ?_
            refine cv_get C (pc' := 45) rfl (k0 := 10) (i := 0) (ci := 0) (by decide) rfl rfl (by decide) (o := some 11) rfl iw_X0 wfX6_84 (D 22 (42, .getfield 84, 3) rfl) rfl ?_
            refine cv_iload_n C (pc' := 46) rfl (D 23 (45, .iload_n 3, 1) rfl) rfl (j := 0) rfl ?_
            refine cv_aald C (pc' := 47) rfl (k0 := 11) (j := p) (r := 12 + p) (by decide) rfl rfl rfl (cv_ix_p hp6) (by decide) (D 24 (46, .aaload, 1) rfl) ?_
            refine cv_aload_n C (pc' := 48) rfl (D 25 (47, .aload_n 0, 1) rfl) rfl (j := 2) rfl ?_
            refine cv_get C (pc' := 51) rfl (k0 := 0) (i := 1) (ci := 6) (by decide) rfl rfl (by decide) (o := some 10) rfl iw_X6 wfX6_21 (D 26 (48, .getfield 21, 3) rfl) rfl ?_
            refine cv_get C (pc' := 54) rfl (k0 := 10) (i := 1) (ci := 0) (by decide) rfl rfl (by decide) (o := some 18) rfl iw_X0 wfX6_119 (D 27 (51, .getfield 119, 3) rfl) rfl ?_
            refine cv_iload_n C (pc' := 55) rfl (D 28 (54, .iload_n 1, 1) rfl) rfl (j := 3) rfl ?_
            refine cv_iald C (pc' := 56) rfl (k0 := 18) (j := j) (by decide) rfl rfl (by omega) (by decide) (D 29 (55, .iaload, 1) rfl) (v := nI (L 5 j)) (hL.2.1 _ (by omega)) ?_
            refine cv_callV C (pc' := 59) rfl (k0 := 12 + p) (ci := 1) (As := [.int (nI (L 5 j))]) (rest := []) (idx := 128) (np := 1) (kX1_isOpenIn L p (L 5 j) σ hL hB hp (hB.2.2.1 _ (by omega))) (cv_lt_p hp6) (cv_shC_p hp6) rfl rfl (by decide +kernel) rfl wmX6_128 wi_yX1_isOpenIn ws_yX1_isOpenIn wn_X1 wc_yX1_isOpenIn (by decide) (by decide) (D 30 (56, .invokevirtual 128, 3) rfl) (Nat.le_of_ble_eq_true rfl) rfl (fun w9 u9 h9 => ?_)
            rw [h9.1, h9.2]
            show cv_At X _ _ σ 59 _ [.int (cv_b (cv_op L p j))]
            refine cv_if_eqB C (pc' := 62) rfl (tgt := 68) (D 31 (59, .ifCond .eq 9, 3) rfl) (by decide) (fun b59 => ?_) (fun b59 => ?_)
            · skip
              refine cv_iincN C (pc' := 71) rfl (D 38 (68, .iinc 3 1, 3) rfl) (j := 0) rfl (by decide) (lv' := [(3, .int (nI (p + 1))), (2, .int (nI (cv_sb (fun p => cv_op L p j) p))), (0, .ref 0), (1, .int (nI j))]) rfl ?_
              refine cv_goto C (tgt := 27) (D 39 (71, .goto (-44), 3) rfl) (by decide) ?_
              have hw9 : cv_sb (fun p => cv_op L p j) p = cv_sb (fun p => cv_op L p j) (p + 1) := by simp [cv_sb, b59]
              rw [hw9]
              exact ih27 (p + 1) (by omega)
            · skip
              refine cv_iload_n C (pc' := 63) rfl (D 32 (62, .iload_n 2, 1) rfl) rfl (j := 1) rfl ?_
              refine cv_iconst C (pc' := 64) rfl (D 33 (63, .iconst 1, 1) rfl) (v := nI 1) (by decide) ?_
              refine cv_iload_n C (pc' := 65) rfl (D 34 (64, .iload_n 3, 1) rfl) rfl (j := 0) rfl ?_
              refine cv_ishl1 C (pc' := 66) rfl (by omega) (D 35 (65, .ishl, 1) rfl) ?_
              refine cv_iorN C (pc' := 67) rfl (D 36 (66, .ior, 1) rfl) ?_
              refine cv_istore_n C (pc' := 68) rfl (D 37 (67, .istore_n 2, 1) rfl) rfl (by decide) (lv' := [(2, .int (nI ((cv_sb (fun p => cv_op L p j) p) ||| (2 ^ p)))), (3, .int (nI p)), (0, .ref 0), (1, .int (nI j))]) rfl ?_
              refine cv_iincN C (pc' := 71) rfl (D 38 (68, .iinc 3 1, 3) rfl) (j := 1) rfl (by decide) (lv' := [(3, .int (nI (p + 1))), (2, .int (nI ((cv_sb (fun p => cv_op L p j) p) ||| (2 ^ p)))), (0, .ref 0), (1, .int (nI j))]) rfl ?_
              refine cv_goto C (tgt := 27) (D 39 (71, .goto (-44), 3) rfl) (by decide) ?_
              have hw9 : (cv_sb (fun p => cv_op L p j) p) ||| (2 ^ p) = cv_sb (fun p => cv_op L p j) (p + 1) := by simp [cv_sb, b59]
              rw [hw9]
              exact ih27 (p + 1) (by omega)
      exact LP27 (L 7 0) 0 (by omega)
    · skip
      refine cv_bipush C (pc' := 22) rfl (D 9 (20, .bipush (-3), 2) rfl) (v := -3) (by decide) ?_
      exact cv_iret C Rt rfl (D 10 (22, .ireturn, 1) rfl) ⟨congrArg (fun z => some (Value.int z)) (by unfold cv_a_open cv_day; rw [if_pos b4, if_neg (by simpa using b17)]), hR⟩
  · skip
    refine cv_bipush C (pc' := 9) rfl (D 3 (7, .bipush (-2), 2) rfl) (v := -2) (by decide) ?_
    exact cv_iret C Rt rfl (D 4 (9, .ireturn, 1) rfl) ⟨congrArg (fun z => some (Value.int z)) (by unfold cv_a_open cv_day; rw [if_neg (by simp [b4])]), hR⟩

set_option maxHeartbeats 4000000 in
set_option maxRecDepth 100000 in
theorem pX6_soonest (tr : Int32) (ft : Nat) (sl : Nat → Option (Nat × Nat)) (sc : Nat → Nat → Int32) (L : cv_L) (rc : Nat) (rd : Nat → Nat) (rn : Nat → Option Nat) (x : Int32) (σ : cv_St) (hR : cv_RC tr ft sl sc L rc rd rn σ) (hB : cv_LB L) (hDB : cv_DB rc rd rn) : cv_Ct yX6_soonest cX6_soonest 2 (some .int) 4 0 0 26 cv_shC [.ref 0, .int x] σ (fun v u => v = some (.int (cv_a_soonest L x)) ∧ cv_RC tr ft sl sc L rc rd rn u) := by
  refine cv_enter (own := RX6) (by decide) rfl (Nat.le_of_ble_eq_true rfl) ?_
  intro X a C Rt hRm
  have D := @cv_dec _ _ dkX6_soonest
  obtain ⟨hTr, hFt, hSh, hL, hSe, hD⟩ := id hR
  have hn6 := hB.1
  have hrc := hDB.1
  show cv_At X _ _ σ 0 [(0, .ref 0), (1, .int x)] []
  refine cv_iload_n C (pc' := 1) rfl (D 0 (0, .iload_n 1, 1) rfl) rfl (j := 1) rfl ?_
  refine cv_callS C (pc' := 4) rfl (As := [.int x]) (rest := []) (idx := 108) (np := 1) (kX6_isDay x σ) (by decide +kernel) rfl wmX6_108 wt_yX6_isDay wn_X6 wc_yX6_isDay (by decide) (by decide) (D 1 (1, .invokestatic 108, 3) rfl) (Nat.le_of_ble_eq_true rfl) rfl (fun w9 u9 h9 => ?_)
  rw [h9.1, h9.2]
  show cv_At X _ _ σ 4 _ [.int (cv_b (cv_in x 8))]
  refine cv_if_neB C (pc' := 7) rfl (tgt := 10) (D 2 (4, .ifCond .ne 6, 3) rfl) (by decide) (fun b4 => ?_) (fun b4 => ?_)
  · skip
    obtain ⟨j, hj, rfl⟩ := cv_in_of b4 (by omega)
    refine cv_aload_n C (pc' := 11) rfl (D 5 (10, .aload_n 0, 1) rfl) rfl (j := 0) rfl ?_
    refine cv_get C (pc' := 14) rfl (k0 := 0) (i := 1) (ci := 6) (by decide) rfl rfl (by decide) (o := some 10) rfl iw_X6 wfX6_21 (D 6 (11, .getfield 21, 3) rfl) rfl ?_
    refine cv_get C (pc' := 17) rfl (k0 := 10) (i := 5) (ci := 0) (by decide) rfl rfl (by decide) (o := none) rfl iw_X0 wfX6_115 (D 7 (14, .getfield 115, 3) rfl) (v := .int (cv_b (decide (0 < L 7 0)))) (congrArg Value.int hSe) ?_
    refine cv_if_neB C (pc' := 20) rfl (tgt := 23) (D 8 (17, .ifCond .ne 6, 3) rfl) (by decide) (fun b17 => ?_) (fun b17 => ?_)
    · skip
      refine cv_aload_n C (pc' := 24) rfl (D 11 (23, .aload_n 0, 1) rfl) rfl (j := 0) rfl ?_
      refine cv_get C (pc' := 27) rfl (k0 := 0) (i := 1) (ci := 6) (by decide) rfl rfl (by decide) (o := some 10) rfl iw_X6 wfX6_21 (D 12 (24, .getfield 21, 3) rfl) rfl ?_
      refine cv_iconst C (pc' := 28) rfl (D 13 (27, .iconst (-1), 1) rfl) (v := -1) (by decide) ?_
      refine cv_callV C (pc' := 31) rfl (k0 := 10) (ci := 0) (As := [.int (-1)]) (rest := []) (idx := 131) (np := 1) (kX0_chart L (-1) σ hL hB) (by decide) rfl rfl rfl (by decide +kernel) rfl wmX6_131 wi_yX0_chart ws_yX0_chart wn_X0 wc_yX0_chart (by decide) (by decide) (D 14 (28, .invokevirtual 131, 3) rfl) (Nat.le_of_ble_eq_true rfl) rfl (fun w28 u28 h28 => ?_)
      obtain ⟨e28, hCOu28⟩ := h28
      rw [e28]
      have hKu28 : ∀ k, k ≠ 20 → k ≠ 21 → k ≠ 22 → u28 k = σ k := fun k h _ _ => hCOu28.1 k h
      have hLu28 := cv_LC_k hKu28 hL hB
      have hTu28 := cv_TC_of hCOu28
      have hDu28 := cv_DC_k hKu28 hD
      show cv_At X _ _ u28 31 _ []
      refine cv_aload_n C (pc' := 32) rfl (D 15 (31, .aload_n 0, 1) rfl) rfl (j := 0) rfl ?_
      refine cv_get C (pc' := 35) rfl (k0 := 0) (i := 1) (ci := 6) (by decide) rfl rfl (by decide) (o := some 10) rfl iw_X6 wfX6_21 (D 16 (32, .getfield 21, 3) rfl) rfl ?_
      refine cv_iload_n C (pc' := 36) rfl (D 17 (35, .iload_n 1, 1) rfl) rfl (j := 1) rfl ?_
      refine cv_callV C (pc' := 39) rfl (k0 := 10) (ci := 0) (As := [.int (nI j)]) (rest := []) (idx := 135) (np := 1) (kX0_doneOn L (cv_RT L (fun q => decide (nI q = -1)) 8) j u28 hLu28 hB hTu28 (by omega)) (by decide) rfl rfl rfl (by decide +kernel) rfl wmX6_135 wi_yX0_doneOn ws_yX0_doneOn wn_X0 wc_yX0_doneOn (by decide) (by decide) (D 18 (36, .invokevirtual 135, 3) rfl) (Nat.le_of_ble_eq_true rfl) rfl (fun w9 u9 h9 => ?_)
      rw [h9.1, h9.2]
      show cv_At X _ _ u28 39 _ [.int (cv_o (cv_sn L j))]
      exact cv_iret C Rt rfl (D 19 (39, .ireturn, 1) rfl) ⟨congrArg (fun z => some (Value.int z)) (by unfold cv_a_soonest cv_day; rw [if_pos b4, if_pos (by simpa using b17), cv_nt, nI_clamp (by omega)]), cv_RC_k hKu28 hB hR⟩
    · skip
      refine cv_bipush C (pc' := 22) rfl (D 9 (20, .bipush (-3), 2) rfl) (v := -3) (by decide) ?_
      exact cv_iret C Rt rfl (D 10 (22, .ireturn, 1) rfl) ⟨congrArg (fun z => some (Value.int z)) (by unfold cv_a_soonest cv_day; rw [if_pos b4, if_neg (by simpa using b17)]), hR⟩
  · skip
    refine cv_bipush C (pc' := 9) rfl (D 3 (7, .bipush (-2), 2) rfl) (v := -2) (by decide) ?_
    exact cv_iret C Rt rfl (D 4 (9, .ireturn, 1) rfl) ⟨congrArg (fun z => some (Value.int z)) (by unfold cv_a_soonest cv_day; rw [if_neg (by simp [b4])]), hR⟩

set_option maxHeartbeats 4000000 in
set_option maxRecDepth 100000 in
theorem pX6_holes (tr : Int32) (ft : Nat) (sl : Nat → Option (Nat × Nat)) (sc : Nat → Nat → Int32) (L : cv_L) (rc : Nat) (rd : Nat → Nat) (rn : Nat → Option Nat) (x : Int32) (σ : cv_St) (hR : cv_RC tr ft sl sc L rc rd rn σ) (hB : cv_LB L) (hDB : cv_DB rc rd rn) : cv_Ct yX6_holes cX6_holes 2 (some .int) 4 0 0 26 cv_shC [.ref 0, .int x] σ (fun v u => v = some (.int (cv_a_holes L x)) ∧ cv_RC tr ft sl sc L rc rd rn u) := by
  refine cv_enter (own := RX6) (by decide) rfl (Nat.le_of_ble_eq_true rfl) ?_
  intro X a C Rt hRm
  have D := @cv_dec _ _ dkX6_holes
  obtain ⟨hTr, hFt, hSh, hL, hSe, hD⟩ := id hR
  have hn6 := hB.1
  have hrc := hDB.1
  show cv_At X _ _ σ 0 [(0, .ref 0), (1, .int x)] []
  refine cv_iload_n C (pc' := 1) rfl (D 0 (0, .iload_n 1, 1) rfl) rfl (j := 1) rfl ?_
  refine cv_callS C (pc' := 4) rfl (As := [.int x]) (rest := []) (idx := 108) (np := 1) (kX6_isDay x σ) (by decide +kernel) rfl wmX6_108 wt_yX6_isDay wn_X6 wc_yX6_isDay (by decide) (by decide) (D 1 (1, .invokestatic 108, 3) rfl) (Nat.le_of_ble_eq_true rfl) rfl (fun w9 u9 h9 => ?_)
  rw [h9.1, h9.2]
  show cv_At X _ _ σ 4 _ [.int (cv_b (cv_in x 8))]
  refine cv_if_neB C (pc' := 7) rfl (tgt := 10) (D 2 (4, .ifCond .ne 6, 3) rfl) (by decide) (fun b4 => ?_) (fun b4 => ?_)
  · skip
    obtain ⟨j, hj, rfl⟩ := cv_in_of b4 (by omega)
    refine cv_aload_n C (pc' := 11) rfl (D 5 (10, .aload_n 0, 1) rfl) rfl (j := 0) rfl ?_
    refine cv_get C (pc' := 14) rfl (k0 := 0) (i := 1) (ci := 6) (by decide) rfl rfl (by decide) (o := some 10) rfl iw_X6 wfX6_21 (D 6 (11, .getfield 21, 3) rfl) rfl ?_
    refine cv_get C (pc' := 17) rfl (k0 := 10) (i := 5) (ci := 0) (by decide) rfl rfl (by decide) (o := none) rfl iw_X0 wfX6_115 (D 7 (14, .getfield 115, 3) rfl) (v := .int (cv_b (decide (0 < L 7 0)))) (congrArg Value.int hSe) ?_
    refine cv_if_neB C (pc' := 20) rfl (tgt := 23) (D 8 (17, .ifCond .ne 6, 3) rfl) (by decide) (fun b17 => ?_) (fun b17 => ?_)
    · skip
      refine cv_aload_n C (pc' := 24) rfl (D 11 (23, .aload_n 0, 1) rfl) rfl (j := 0) rfl ?_
      refine cv_get C (pc' := 27) rfl (k0 := 0) (i := 1) (ci := 6) (by decide) rfl rfl (by decide) (o := some 10) rfl iw_X6 wfX6_21 (D 12 (24, .getfield 21, 3) rfl) rfl ?_
      refine cv_iload_n C (pc' := 28) rfl (D 13 (27, .iload_n 1, 1) rfl) rfl (j := 1) rfl ?_
      refine cv_callV C (pc' := 31) rfl (k0 := 10) (ci := 0) (As := [.int (nI j)]) (rest := []) (idx := 138) (np := 1) (kX0_fewestHoles L j σ hL hB (by omega)) (by decide) rfl rfl rfl (by decide +kernel) rfl wmX6_138 wi_yX0_fewestHoles ws_yX0_fewestHoles wn_X0 wc_yX0_fewestHoles (by decide) (by decide) (D 14 (28, .invokevirtual 138, 3) rfl) (Nat.le_of_ble_eq_true rfl) rfl (fun w28 u28 h28 => ?_)
      obtain ⟨e1, e2⟩ := h28
      rw [e1]
      show cv_At X _ _ u28 31 _ [.int (cv_o (cv_fh L j))]
      exact cv_iret C Rt rfl (D 15 (31, .ireturn, 1) rfl) ⟨congrArg (fun z => some (Value.int z)) (by unfold cv_a_holes cv_day; rw [if_pos b4, if_pos (by simpa using b17), cv_nt, nI_clamp (by omega)]), cv_RC_k (fun k _ h _ => e2 k h) hB hR⟩
    · skip
      refine cv_bipush C (pc' := 22) rfl (D 9 (20, .bipush (-3), 2) rfl) (v := -3) (by decide) ?_
      exact cv_iret C Rt rfl (D 10 (22, .ireturn, 1) rfl) ⟨congrArg (fun z => some (Value.int z)) (by unfold cv_a_holes cv_day; rw [if_pos b4, if_neg (by simpa using b17)]), hR⟩
  · skip
    refine cv_bipush C (pc' := 9) rfl (D 3 (7, .bipush (-2), 2) rfl) (v := -2) (by decide) ?_
    exact cv_iret C Rt rfl (D 4 (9, .ireturn, 1) rfl) ⟨congrArg (fun z => some (Value.int z)) (by unfold cv_a_holes cv_day; rw [if_neg (by simp [b4])]), hR⟩

set_option maxHeartbeats 4000000 in
set_option maxRecDepth 100000 in
theorem pX6_last (tr : Int32) (ft : Nat) (sl : Nat → Option (Nat × Nat)) (sc : Nat → Nat → Int32) (L : cv_L) (rc : Nat) (rd : Nat → Nat) (rn : Nat → Option Nat) (x : Int32) (σ : cv_St) (hR : cv_RC tr ft sl sc L rc rd rn σ) (hB : cv_LB L) (hDB : cv_DB rc rd rn) : cv_Ct yX6_last cX6_last 3 (some .int) 4 0 0 26 cv_shC [.ref 0, .int x] σ (fun v u => v = some (.int (cv_a_last L x)) ∧ cv_RC tr ft sl sc L rc rd rn u) := by
  refine cv_enter (own := RX6) (by decide) rfl (Nat.le_of_ble_eq_true rfl) ?_
  intro X a C Rt hRm
  have D := @cv_dec _ _ dkX6_last
  obtain ⟨hTr, hFt, hSh, hL, hSe, hD⟩ := id hR
  have hn6 := hB.1
  have hrc := hDB.1
  have hg1 := hB.2.2.2 1 (by decide)
  have hg2 := hB.2.2.2 2 (by decide)
  show cv_At X _ _ σ 0 [(0, .ref 0), (1, .int x)] []
  refine cv_iload_n C (pc' := 1) rfl (D 0 (0, .iload_n 1, 1) rfl) rfl (j := 1) rfl ?_
  refine cv_callS C (pc' := 4) rfl (As := [.int x]) (rest := []) (idx := 108) (np := 1) (kX6_isDay x σ) (by decide +kernel) rfl wmX6_108 wt_yX6_isDay wn_X6 wc_yX6_isDay (by decide) (by decide) (D 1 (1, .invokestatic 108, 3) rfl) (Nat.le_of_ble_eq_true rfl) rfl (fun w9 u9 h9 => ?_)
  rw [h9.1, h9.2]
  show cv_At X _ _ σ 4 _ [.int (cv_b (cv_in x 8))]
  refine cv_if_neB C (pc' := 7) rfl (tgt := 10) (D 2 (4, .ifCond .ne 6, 3) rfl) (by decide) (fun b4 => ?_) (fun b4 => ?_)
  · skip
    obtain ⟨j, hj, rfl⟩ := cv_in_of b4 (by omega)
    refine cv_aload_n C (pc' := 11) rfl (D 5 (10, .aload_n 0, 1) rfl) rfl (j := 0) rfl ?_
    refine cv_get C (pc' := 14) rfl (k0 := 0) (i := 1) (ci := 6) (by decide) rfl rfl (by decide) (o := some 10) rfl iw_X6 wfX6_21 (D 6 (11, .getfield 21, 3) rfl) rfl ?_
    refine cv_get C (pc' := 17) rfl (k0 := 10) (i := 5) (ci := 0) (by decide) rfl rfl (by decide) (o := none) rfl iw_X0 wfX6_115 (D 7 (14, .getfield 115, 3) rfl) (v := .int (cv_b (decide (0 < L 7 0)))) (congrArg Value.int hSe) ?_
    refine cv_if_neB C (pc' := 20) rfl (tgt := 23) (D 8 (17, .ifCond .ne 6, 3) rfl) (by decide) (fun b17 => ?_) (fun b17 => ?_)
    · skip
      refine cv_aload_n C (pc' := 24) rfl (D 11 (23, .aload_n 0, 1) rfl) rfl (j := 0) rfl ?_
      refine cv_get C (pc' := 27) rfl (k0 := 0) (i := 1) (ci := 6) (by decide) rfl rfl (by decide) (o := some 10) rfl iw_X6 wfX6_21 (D 12 (24, .getfield 21, 3) rfl) rfl ?_
      refine cv_iconst C (pc' := 28) rfl (D 13 (27, .iconst (-1), 1) rfl) (v := -1) (by decide) ?_
      refine cv_callV C (pc' := 31) rfl (k0 := 10) (ci := 0) (As := [.int (-1)]) (rest := []) (idx := 131) (np := 1) (kX0_chart L (-1) σ hL hB) (by decide) rfl rfl rfl (by decide +kernel) rfl wmX6_131 wi_yX0_chart ws_yX0_chart wn_X0 wc_yX0_chart (by decide) (by decide) (D 14 (28, .invokevirtual 131, 3) rfl) (Nat.le_of_ble_eq_true rfl) rfl (fun w28 u28 h28 => ?_)
      obtain ⟨e28, hCOu28⟩ := h28
      rw [e28]
      have hKu28 : ∀ k, k ≠ 20 → k ≠ 21 → k ≠ 22 → u28 k = σ k := fun k h _ _ => hCOu28.1 k h
      have hLu28 := cv_LC_k hKu28 hL hB
      have hTu28 := cv_TC_of hCOu28
      have hDu28 := cv_DC_k hKu28 hD
      show cv_At X _ _ u28 31 _ []
      refine cv_bipush C (pc' := 33) rfl (D 15 (31, .bipush 7, 2) rfl) (v := nI 7) (by decide) ?_
      refine cv_istore_n C (pc' := 34) rfl (D 16 (33, .istore_n 2, 1) rfl) rfl (by decide) (lv' := [(2, .int (nI 7)), (0, .ref 0), (1, .int (nI j))]) rfl ?_
      have LP34 : ∀ (i : Nat), (i ≤ 8) → (cv_la (fun d => cv_can L (-1) d j (L 6 1) (L 6 2)) 8 = cv_la (fun d => cv_can L (-1) d j (L 6 1) (L 6 2)) i) → cv_At X (26, cv_shC, 0, 0, a) 3 u28 34 [(2, .int (cv_dn i)), (0, .ref 0), (1, .int (nI j))] [] := by
        intro i
        induction i with
        | zero =>
          intro hi h0
          show cv_At X _ _ u28 34 [(2, .int (-1)), (0, .ref 0), (1, .int (nI j))] []
          refine cv_iload_n C (pc' := 35) rfl (D 17 (34, .iload_n 2, 1) rfl) rfl (j := 0) rfl ?_
          refine cv_if_lt C (pc' := 38) rfl (tgt := 76) (D 18 (35, .ifCond .lt 41, 3) rfl) (by decide) (fun _ => ?_) (fun h => absurd h (by decide))
          refine cv_bipush C (pc' := 78) rfl (D 39 (76, .bipush (-9), 2) rfl) (v := -9) (by decide) ?_
          exact cv_iret C Rt rfl (D 40 (78, .ireturn, 1) rfl) ⟨congrArg (fun z => some (Value.int z)) (by unfold cv_a_last cv_day; rw [if_pos b4, if_pos (by simpa using b17), cv_nt, nI_clamp (by omega)]; rw [h0]; rfl), cv_RC_k hKu28 hB hR⟩
        | succ i ih34 =>
          intro hi h0
          show cv_At X _ _ u28 34 [(2, .int (nI i)), (0, .ref 0), (1, .int (nI j))] []
          refine cv_iload_n C (pc' := 35) rfl (D 17 (34, .iload_n 2, 1) rfl) rfl (j := 0) rfl ?_
          refine cv_if_lt C (pc' := 38) rfl (tgt := 76) (D 18 (35, .ifCond .lt 41, 3) rfl) (by decide) (fun b35 => ?_) (fun b35 => ?_)
          · skip
            exact absurd b35 (nI_pos (by omega))
          · skip
            refine cv_aload_n C (pc' := 39) rfl (D 19 (38, .aload_n 0, 1) rfl) rfl (j := 1) rfl ?_
            refine cv_get C (pc' := 42) rfl (k0 := 0) (i := 1) (ci := 6) (by decide) rfl rfl (by decide) (o := some 10) rfl iw_X6 wfX6_21 (D 20 (39, .getfield 21, 3) rfl) rfl ?_
            refine cv_iload_n C (pc' := 43) rfl (D 21 (42, .iload_n 1, 1) rfl) rfl (j := 2) rfl ?_
            refine cv_iload_n C (pc' := 44) rfl (D 22 (43, .iload_n 2, 1) rfl) rfl (j := 0) rfl ?_
            refine cv_aload_n C (pc' := 45) rfl (D 23 (44, .aload_n 0, 1) rfl) rfl (j := 1) rfl ?_
            refine cv_get C (pc' := 48) rfl (k0 := 0) (i := 1) (ci := 6) (by decide) rfl rfl (by decide) (o := some 10) rfl iw_X6 wfX6_21 (D 24 (45, .getfield 21, 3) rfl) rfl ?_
            refine cv_get C (pc' := 51) rfl (k0 := 10) (i := 2) (ci := 0) (by decide) rfl rfl (by decide) (o := some 19) rfl iw_X0 wfX6_125 (D 25 (48, .getfield 125, 3) rfl) rfl ?_
            refine cv_iconst C (pc' := 52) rfl (D 26 (51, .iconst 1, 1) rfl) (v := nI 1) (by decide) ?_
            refine cv_iald C (pc' := 53) rfl (k0 := 19) (j := 1) (by decide) rfl rfl (by omega) (by decide) (D 27 (52, .iaload, 1) rfl) (v := nI (L 6 1)) (hLu28.2.2.1 _ (by omega)) ?_
            refine cv_aload_n C (pc' := 54) rfl (D 28 (53, .aload_n 0, 1) rfl) rfl (j := 1) rfl ?_
            refine cv_get C (pc' := 57) rfl (k0 := 0) (i := 1) (ci := 6) (by decide) rfl rfl (by decide) (o := some 10) rfl iw_X6 wfX6_21 (D 29 (54, .getfield 21, 3) rfl) rfl ?_
            refine cv_get C (pc' := 60) rfl (k0 := 10) (i := 2) (ci := 0) (by decide) rfl rfl (by decide) (o := some 19) rfl iw_X0 wfX6_125 (D 30 (57, .getfield 125, 3) rfl) rfl ?_
            refine cv_iconst C (pc' := 61) rfl (D 31 (60, .iconst 2, 1) rfl) (v := nI 2) (by decide) ?_
            refine cv_iald C (pc' := 62) rfl (k0 := 19) (j := 2) (by decide) rfl rfl (by omega) (by decide) (D 32 (61, .iaload, 1) rfl) (v := nI (L 6 2)) (hLu28.2.2.1 _ (by omega)) ?_
            refine cv_callV C (pc' := 65) rfl (k0 := 10) (ci := 0) (As := [.int (nI j), .int (nI i), .int (nI (L 6 1)), .int (nI (L 6 2))]) (rest := []) (idx := 155) (np := 4) (kX0_isDoneBy L (cv_RT L (fun q => decide (nI q = -1)) 8) j i (L 6 1) (L 6 2) u28 hLu28 hB hTu28 (by omega) (by omega) (by omega) (by omega)) (by decide) rfl rfl rfl (by decide +kernel) rfl wmX6_155 wi_yX0_isDoneBy ws_yX0_isDoneBy wn_X0 wc_yX0_isDoneBy (by decide) (by decide) (D 33 (62, .invokevirtual 155, 3) rfl) (Nat.le_of_ble_eq_true rfl) rfl (fun w9 u9 h9 => ?_)
            rw [h9.1, h9.2]
            show cv_At X _ _ u28 65 _ [.int (cv_b (cv_can L (-1) i j (L 6 1) (L 6 2)))]
            refine cv_if_eqB C (pc' := 68) rfl (tgt := 70) (D 34 (65, .ifCond .eq 5, 3) rfl) (by decide) (fun b65 => ?_) (fun b65 => ?_)
            · skip
              refine cv_iinc C (pc' := 73) rfl (D 37 (70, .iinc 2 (-1), 3) rfl) (j := 0) rfl (v := cv_dn i) (cv_dn_dec i) (by decide) (lv' := [(2, .int (cv_dn i)), (0, .ref 0), (1, .int (nI j))]) rfl ?_
              refine cv_goto C (tgt := 34) (D 38 (73, .goto (-39), 3) rfl) (by decide) ?_
              exact ih34 (by omega) (by rw [h0]; simp [cv_la, b65])
            · skip
              refine cv_iload_n C (pc' := 69) rfl (D 35 (68, .iload_n 2, 1) rfl) rfl (j := 0) rfl ?_
              exact cv_iret C Rt rfl (D 36 (69, .ireturn, 1) rfl) ⟨congrArg (fun z => some (Value.int z)) (by unfold cv_a_last cv_day; rw [if_pos b4, if_pos (by simpa using b17), cv_nt, nI_clamp (by omega)]; rw [h0]; simp only [cv_la]; rw [if_pos b65]; rfl), cv_RC_k hKu28 hB hR⟩
      exact LP34 8 (by decide) rfl
    · skip
      refine cv_bipush C (pc' := 22) rfl (D 9 (20, .bipush (-3), 2) rfl) (v := -3) (by decide) ?_
      exact cv_iret C Rt rfl (D 10 (22, .ireturn, 1) rfl) ⟨congrArg (fun z => some (Value.int z)) (by unfold cv_a_last cv_day; rw [if_pos b4, if_neg (by simpa using b17)]), hR⟩
  · skip
    refine cv_bipush C (pc' := 9) rfl (D 3 (7, .bipush (-2), 2) rfl) (v := -2) (by decide) ?_
    exact cv_iret C Rt rfl (D 4 (9, .ireturn, 1) rfl) ⟨congrArg (fun z => some (Value.int z)) (by unfold cv_a_last cv_day; rw [if_neg (by simp [b4])]), hR⟩

set_option maxHeartbeats 4000000 in
set_option maxRecDepth 100000 in
theorem pX6_safe (tr : Int32) (ft : Nat) (sl : Nat → Option (Nat × Nat)) (sc : Nat → Nat → Int32) (L : cv_L) (rc : Nat) (rd : Nat → Nat) (rn : Nat → Option Nat) (x : Int32) (σ : cv_St) (hR : cv_RC tr ft sl sc L rc rd rn σ) (hB : cv_LB L) (hDB : cv_DB rc rd rn) : cv_Ct yX6_safe cX6_safe 3 (some .int) 5 0 0 26 cv_shC [.ref 0, .int x] σ (fun v u => v = some (.int (cv_a_safe L x)) ∧ cv_RC tr ft sl sc L rc rd rn u) := by
  refine cv_enter (own := RX6) (by decide) rfl (Nat.le_of_ble_eq_true rfl) ?_
  intro X a C Rt hRm
  have D := @cv_dec _ _ dkX6_safe
  obtain ⟨hTr, hFt, hSh, hL, hSe, hD⟩ := id hR
  have hn6 := hB.1
  have hrc := hDB.1
  show cv_At X _ _ σ 0 [(0, .ref 0), (1, .int x)] []
  refine cv_iload_n C (pc' := 1) rfl (D 0 (0, .iload_n 1, 1) rfl) rfl (j := 1) rfl ?_
  refine cv_callS C (pc' := 4) rfl (As := [.int x]) (rest := []) (idx := 108) (np := 1) (kX6_isDay x σ) (by decide +kernel) rfl wmX6_108 wt_yX6_isDay wn_X6 wc_yX6_isDay (by decide) (by decide) (D 1 (1, .invokestatic 108, 3) rfl) (Nat.le_of_ble_eq_true rfl) rfl (fun w9 u9 h9 => ?_)
  rw [h9.1, h9.2]
  show cv_At X _ _ σ 4 _ [.int (cv_b (cv_in x 8))]
  refine cv_if_neB C (pc' := 7) rfl (tgt := 10) (D 2 (4, .ifCond .ne 6, 3) rfl) (by decide) (fun b4 => ?_) (fun b4 => ?_)
  · skip
    obtain ⟨j, hj, rfl⟩ := cv_in_of b4 (by omega)
    refine cv_aload_n C (pc' := 11) rfl (D 5 (10, .aload_n 0, 1) rfl) rfl (j := 0) rfl ?_
    refine cv_get C (pc' := 14) rfl (k0 := 0) (i := 1) (ci := 6) (by decide) rfl rfl (by decide) (o := some 10) rfl iw_X6 wfX6_21 (D 6 (11, .getfield 21, 3) rfl) rfl ?_
    refine cv_get C (pc' := 17) rfl (k0 := 10) (i := 5) (ci := 0) (by decide) rfl rfl (by decide) (o := none) rfl iw_X0 wfX6_115 (D 7 (14, .getfield 115, 3) rfl) (v := .int (cv_b (decide (0 < L 7 0)))) (congrArg Value.int hSe) ?_
    refine cv_if_neB C (pc' := 20) rfl (tgt := 23) (D 8 (17, .ifCond .ne 6, 3) rfl) (by decide) (fun b17 => ?_) (fun b17 => ?_)
    · skip
      refine cv_aload_n C (pc' := 24) rfl (D 11 (23, .aload_n 0, 1) rfl) rfl (j := 0) rfl ?_
      refine cv_get C (pc' := 27) rfl (k0 := 0) (i := 1) (ci := 6) (by decide) rfl rfl (by decide) (o := some 10) rfl iw_X6 wfX6_21 (D 12 (24, .getfield 21, 3) rfl) rfl ?_
      refine cv_iconst C (pc' := 28) rfl (D 13 (27, .iconst (-1), 1) rfl) (v := -1) (by decide) ?_
      refine cv_callV C (pc' := 31) rfl (k0 := 10) (ci := 0) (As := [.int (-1)]) (rest := []) (idx := 131) (np := 1) (kX0_chart L (-1) σ hL hB) (by decide) rfl rfl rfl (by decide +kernel) rfl wmX6_131 wi_yX0_chart ws_yX0_chart wn_X0 wc_yX0_chart (by decide) (by decide) (D 14 (28, .invokevirtual 131, 3) rfl) (Nat.le_of_ble_eq_true rfl) rfl (fun w28 u28 h28 => ?_)
      obtain ⟨e28, hCOu28⟩ := h28
      rw [e28]
      have hKu28 : ∀ k, k ≠ 20 → k ≠ 21 → k ≠ 22 → u28 k = σ k := fun k h _ _ => hCOu28.1 k h
      have hLu28 := cv_LC_k hKu28 hL hB
      have hTu28 := cv_TC_of hCOu28
      have hDu28 := cv_DC_k hKu28 hD
      show cv_At X _ _ u28 31 _ []
      refine cv_bipush C (pc' := 33) rfl (D 15 (31, .bipush 7, 2) rfl) (v := nI 7) (by decide) ?_
      refine cv_istore_n C (pc' := 34) rfl (D 16 (33, .istore_n 2, 1) rfl) rfl (by decide) (lv' := [(2, .int (nI 7)), (0, .ref 0), (1, .int (nI j))]) rfl ?_
      have LP34 : ∀ (i : Nat), (i ≤ 8) → (cv_la (fun d => cv_al (fun h => cv_can L (-1) d j (cv_clr (L 6 1) (h / 8)) (cv_clr (L 6 2) (h % 8))) 64) 8 = cv_la (fun d => cv_al (fun h => cv_can L (-1) d j (cv_clr (L 6 1) (h / 8)) (cv_clr (L 6 2) (h % 8))) 64) i) → cv_At X (26, cv_shC, 0, 0, a) 3 u28 34 [(2, .int (cv_dn i)), (0, .ref 0), (1, .int (nI j))] [] := by
        intro i
        induction i with
        | zero =>
          intro hi h0
          show cv_At X _ _ u28 34 [(2, .int (-1)), (0, .ref 0), (1, .int (nI j))] []
          refine cv_iload_n C (pc' := 35) rfl (D 17 (34, .iload_n 2, 1) rfl) rfl (j := 0) rfl ?_
          refine cv_if_lt C (pc' := 38) rfl (tgt := 58) (D 18 (35, .ifCond .lt 23, 3) rfl) (by decide) (fun _ => ?_) (fun h => absurd h (by decide))
          refine cv_bipush C (pc' := 60) rfl (D 29 (58, .bipush (-9), 2) rfl) (v := -9) (by decide) ?_
          exact cv_iret C Rt rfl (D 30 (60, .ireturn, 1) rfl) ⟨congrArg (fun z => some (Value.int z)) (by unfold cv_a_safe cv_day; rw [if_pos b4, if_pos (by simpa using b17), cv_nt, nI_clamp (by omega)]; rw [h0]; rfl), cv_RC_k hKu28 hB hR⟩
        | succ i ih34 =>
          intro hi h0
          show cv_At X _ _ u28 34 [(2, .int (nI i)), (0, .ref 0), (1, .int (nI j))] []
          refine cv_iload_n C (pc' := 35) rfl (D 17 (34, .iload_n 2, 1) rfl) rfl (j := 0) rfl ?_
          refine cv_if_lt C (pc' := 38) rfl (tgt := 58) (D 18 (35, .ifCond .lt 23, 3) rfl) (by decide) (fun b35 => ?_) (fun b35 => ?_)
          · skip
            exact absurd b35 (nI_pos (by omega))
          · skip
            refine cv_aload_n C (pc' := 39) rfl (D 19 (38, .aload_n 0, 1) rfl) rfl (j := 1) rfl ?_
            refine cv_get C (pc' := 42) rfl (k0 := 0) (i := 1) (ci := 6) (by decide) rfl rfl (by decide) (o := some 10) rfl iw_X6 wfX6_21 (D 20 (39, .getfield 21, 3) rfl) rfl ?_
            refine cv_iload_n C (pc' := 43) rfl (D 21 (42, .iload_n 1, 1) rfl) rfl (j := 2) rfl ?_
            refine cv_iload_n C (pc' := 44) rfl (D 22 (43, .iload_n 2, 1) rfl) rfl (j := 0) rfl ?_
            refine cv_callV C (pc' := 47) rfl (k0 := 10) (ci := 0) (As := [.int (nI j), .int (nI i)]) (rest := []) (idx := 159) (np := 2) (kX0_isSafeBy L (cv_RT L (fun q => decide (nI q = -1)) 8) j i u28 hLu28 hB hTu28 (by omega) (by omega)) (by decide) rfl rfl rfl (by decide +kernel) rfl wmX6_159 wi_yX0_isSafeBy ws_yX0_isSafeBy wn_X0 wc_yX0_isSafeBy (by decide) (by decide) (D 23 (44, .invokevirtual 159, 3) rfl) (Nat.le_of_ble_eq_true rfl) rfl (fun w9 u9 h9 => ?_)
            rw [h9.1, h9.2]
            show cv_At X _ _ u28 47 _ [.int (cv_b (cv_al (fun h => cv_can L (-1) i j (cv_clr (L 6 1) (h / 8)) (cv_clr (L 6 2) (h % 8))) 64))]
            refine cv_if_eqB C (pc' := 50) rfl (tgt := 52) (D 24 (47, .ifCond .eq 5, 3) rfl) (by decide) (fun b47 => ?_) (fun b47 => ?_)
            · skip
              refine cv_iinc C (pc' := 55) rfl (D 27 (52, .iinc 2 (-1), 3) rfl) (j := 0) rfl (v := cv_dn i) (cv_dn_dec i) (by decide) (lv' := [(2, .int (cv_dn i)), (0, .ref 0), (1, .int (nI j))]) rfl ?_
              refine cv_goto C (tgt := 34) (D 28 (55, .goto (-21), 3) rfl) (by decide) ?_
              exact ih34 (by omega) (by rw [h0]; simp [cv_la, b47])
            · skip
              refine cv_iload_n C (pc' := 51) rfl (D 25 (50, .iload_n 2, 1) rfl) rfl (j := 0) rfl ?_
              exact cv_iret C Rt rfl (D 26 (51, .ireturn, 1) rfl) ⟨congrArg (fun z => some (Value.int z)) (by unfold cv_a_safe cv_day; rw [if_pos b4, if_pos (by simpa using b17), cv_nt, nI_clamp (by omega)]; rw [h0]; simp only [cv_la]; rw [if_pos b47]; rfl), cv_RC_k hKu28 hB hR⟩
      exact LP34 8 (by decide) rfl
    · skip
      refine cv_bipush C (pc' := 22) rfl (D 9 (20, .bipush (-3), 2) rfl) (v := -3) (by decide) ?_
      exact cv_iret C Rt rfl (D 10 (22, .ireturn, 1) rfl) ⟨congrArg (fun z => some (Value.int z)) (by unfold cv_a_safe cv_day; rw [if_pos b4, if_neg (by simpa using b17)]), hR⟩
  · skip
    refine cv_bipush C (pc' := 9) rfl (D 3 (7, .bipush (-2), 2) rfl) (v := -2) (by decide) ?_
    exact cv_iret C Rt rfl (D 4 (9, .ireturn, 1) rfl) ⟨congrArg (fun z => some (Value.int z)) (by unfold cv_a_safe cv_day; rw [if_neg (by simp [b4])]), hR⟩

