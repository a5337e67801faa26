set_option maxHeartbeats 4000000 in
set_option maxRecDepth 100000 in
theorem pX7_cell (tr : Int32) (ft : Nat) (sl : Nat → Option (Nat × Nat)) (sc : Nat → Nat → Int32) (L : cv_L) (rc : Nat) (rd : Nat → Nat) (rn : Nat → Option Nat) (x y z : Int32) (μ : cv_St) (hR : cv_RM tr ft sl sc L rc rd rn μ) (hB : cv_LB L) (hDB : cv_DB rc rd rn) : cv_Ct yX7_cell cX7_cell 4 (some .long) 2 0 0 17 cv_shM [.ref 0, .int x, .int y, .int z] μ (fun v u => v = some (.long (cv_a_cell sl sc x y z)) ∧ cv_RM tr (cv_f_cell sl x y z) sl sc L rc rd rn u) := by
  refine cv_enter (own := RX7) (by decide) rfl (Nat.le_of_ble_eq_true rfl) ?_
  intro X a C Rt hRm
  have D := @cv_dec _ _ dkX7_cell
  obtain ⟨hTr, hFt, hSh, hL, hM, hD⟩ := id hR
  have hn6 := hB.1
  have hrc := hDB.1
  show cv_At X _ _ μ 0 [(0, .ref 0), (1, .int x), (2, .int y), (3, .int z)] []
  refine cv_aload_n C (pc' := 1) rfl (D 0 (0, .aload_n 0, 1) rfl) rfl (j := 0) rfl ?_
  refine cv_iconst C (pc' := 2) rfl (D 1 (1, .iconst 0, 1) rfl) (v := nI 0) (by decide) ?_
  refine cv_put C (pc' := 5) rfl (k0 := 0) (i := 0) (ci := 7) (by decide) rfl rfl (by decide) rfl iw_X7 tyX7 tyX7_ok nmX7 wfX7_62 rfl rfl rfl (D 2 (2, .putfield 62, 3) rfl) ?_
  refine cv_iload_n C (pc' := 6) rfl (D 3 (5, .iload_n 1, 1) rfl) rfl (j := 1) rfl ?_
  refine cv_callS C (pc' := 9) rfl (As := [.int x]) (rest := []) (idx := 81) (np := 1) (kX7_isSheet x (cv_u μ 0 0 (nI 0))) (by decide +kernel) rfl wmX7_81 wt_yX7_isSheet wn_X7 wc_yX7_isSheet (by decide) (by decide) (D 4 (6, .invokestatic 81, 3) rfl) (Nat.le_of_ble_eq_true rfl) rfl (fun w9 u9 h9 => ?_)
  rw [h9.1, h9.2]
  show cv_At X _ _ (cv_u μ 0 0 (nI 0)) 9 _ [.int (cv_b (cv_in x 4))]
  refine cv_if_eqB C (pc' := 12) rfl (tgt := 19) (D 5 (9, .ifCond .eq 10, 3) rfl) (by decide) (fun b9 => ?_) (fun b9 => ?_)
  · skip
    refine cv_ldc2 C (pc' := 22) rfl wlX7_65 (D 9 (19, .ldc2_w 65, 3) rfl) ?_
    exact cv_lret C Rt (D 10 (22, .lreturn, 1) rfl) ⟨congrArg (fun z => some (Value.long z)) (by unfold cv_a_cell; rw [if_neg (by simp [b9])]), by unfold cv_f_cell; rw [if_neg (by simp [b9])]; exact cv_RM_f _ hR⟩
  · skip
    refine cv_iload_n C (pc' := 13) rfl (D 6 (12, .iload_n 3, 1) rfl) rfl (j := 3) rfl ?_
    refine cv_callS C (pc' := 16) rfl (As := [.int z]) (rest := []) (idx := 85) (np := 1) (kX7_isSort z (cv_u μ 0 0 (nI 0))) (by decide +kernel) rfl wmX7_85 wt_yX7_isSort wn_X7 wc_yX7_isSort (by decide) (by decide) (D 7 (13, .invokestatic 85, 3) rfl) (Nat.le_of_ble_eq_true rfl) rfl (fun w9 u9 h9 => ?_)
    rw [h9.1, h9.2]
    show cv_At X _ _ (cv_u μ 0 0 (nI 0)) 16 _ [.int (cv_b (cv_in z 3))]
    refine cv_if_neB C (pc' := 19) rfl (tgt := 23) (D 8 (16, .ifCond .ne 7, 3) rfl) (by decide) (fun b16 => ?_) (fun b16 => ?_)
    · skip
      obtain ⟨j, hj, rfl⟩ := cv_in_of b9 (by omega)
      cases hq : sl j with
      | none =>
        have hS1 := (hSh j hj).1
        rw [hq] at hS1
        refine cv_aload_n C (pc' := 24) rfl (D 11 (23, .aload_n 0, 1) rfl) rfl (j := 0) rfl ?_
        refine cv_get C (pc' := 27) rfl (k0 := 0) (i := 2) (ci := 7) (by decide) rfl rfl (by decide) (o := some 1) rfl iw_X7 wfX7_9 (D 12 (24, .getfield 9, 3) rfl) rfl ?_
        refine cv_iload_n C (pc' := 28) rfl (D 13 (27, .iload_n 1, 1) rfl) rfl (j := 1) rfl ?_
        refine cv_iald C (pc' := 29) rfl (k0 := 1) (j := j) (by decide) rfl rfl (by omega) (by decide) (D 14 (28, .iaload, 1) rfl) (v := -9) ((congrFun (cv_u_c (by omega)) _).trans hS1) ?_
        refine cv_bipush C (pc' := 31) rfl (D 15 (29, .bipush (-9), 2) rfl) (v := -9) (by decide) ?_
        refine cv_icmp_eq C (pc' := 34) rfl (tgt := 50) (D 16 (31, .if_icmp .eq 19, 3) rfl) (by decide) (fun _ => ?_) (fun h => absurd h (by decide))
        refine cv_aload_n C (pc' := 51) rfl (D 27 (50, .aload_n 0, 1) rfl) rfl (j := 0) rfl ?_
        refine cv_get C (pc' := 54) rfl (k0 := 0) (i := 2) (ci := 7) (by decide) rfl rfl (by decide) (o := some 1) rfl iw_X7 wfX7_9 (D 28 (51, .getfield 9, 3) rfl) rfl ?_
        refine cv_iload_n C (pc' := 55) rfl (D 29 (54, .iload_n 1, 1) rfl) rfl (j := 1) rfl ?_
        refine cv_iald C (pc' := 56) rfl (k0 := 1) (j := j) (by decide) rfl rfl (by omega) (by decide) (D 30 (55, .iaload, 1) rfl) (v := -9) ((congrFun (cv_u_c (by omega)) _).trans hS1) ?_
        refine cv_bipush C (pc' := 58) rfl (D 31 (56, .bipush (-9), 2) rfl) (v := -9) (by decide) ?_
        refine cv_icmp_ne C (pc' := 61) rfl (tgt := 67) (D 32 (58, .if_icmp .ne 9, 3) rfl) (by decide) (fun h => absurd h (by decide)) (fun _ => ?_)
        have hfo : cv_fo none z y (nI 1) = 1 := rfl
        refine cv_aload_n C (pc' := 62) rfl (D 33 (61, .aload_n 0, 1) rfl) rfl (j := 0) rfl ?_
        refine cv_iconst C (pc' := 63) rfl (D 34 (62, .iconst 1, 1) rfl) (v := nI 1) (by decide) ?_
        refine cv_callV C (pc' := 66) rfl (k0 := 0) (ci := 7) (As := [.int (nI 1)]) (rest := []) (idx := 196) (np := 1) (kX7_lost 1 (cv_u μ 0 0 (nI 0))) (by decide) rfl rfl rfl (by decide +kernel) rfl wmX7_196 wi_yX7_lost ws_yX7_lost wn_X7 wc_yX7_lost (by decide) (by decide) (D 35 (63, .invokevirtual 196, 3) rfl) (Nat.le_of_ble_eq_true rfl) rfl (fun w63 u63 h63 => ?_)
        rw [h63.1, h63.2, cv_uu]
        show cv_At X _ _ (cv_u μ 0 0 (nI 1)) 66 _ [.long (-9223372036854775808)]
        exact cv_lret C Rt (D 36 (66, .lreturn, 1) rfl) ⟨congrArg (fun z => some (Value.long z)) (by unfold cv_a_cell; rw [if_neg (fun h => by rw [cv_nt, nI_clamp (show j < 2 ^ 31 by omega), hq, hfo] at h; omega)]), by unfold cv_f_cell; rw [if_pos ⟨b9, b16⟩, cv_nt, nI_clamp (show j < 2 ^ 31 by omega), hq, hfo]; exact cv_RM_f _ hR⟩
      | some q =>
        have hS1 := (hSh j hj).1
        rw [hq] at hS1
        have hq1 := hS1.2.2.1
        have hq2 := hS1.2.2.2
        refine cv_aload_n C (pc' := 24) rfl (D 11 (23, .aload_n 0, 1) rfl) rfl (j := 0) rfl ?_
        refine cv_get C (pc' := 27) rfl (k0 := 0) (i := 2) (ci := 7) (by decide) rfl rfl (by decide) (o := some 1) rfl iw_X7 wfX7_9 (D 12 (24, .getfield 9, 3) rfl) rfl ?_
        refine cv_iload_n C (pc' := 28) rfl (D 13 (27, .iload_n 1, 1) rfl) rfl (j := 1) rfl ?_
        refine cv_iald C (pc' := 29) rfl (k0 := 1) (j := j) (by decide) rfl rfl (by omega) (by decide) (D 14 (28, .iaload, 1) rfl) (v := nI q.1) ((congrFun (cv_u_c (by omega)) _).trans hS1.1) ?_
        refine cv_bipush C (pc' := 31) rfl (D 15 (29, .bipush (-9), 2) rfl) (v := -9) (by decide) ?_
        refine cv_icmp_eq C (pc' := 34) rfl (tgt := 50) (D 16 (31, .if_icmp .eq 19, 3) rfl) (by decide) (fun b31 => ?_) (fun b31 => ?_)
        · skip
          exact absurd b31 (cv_m9 (by omega))
        · skip
          refine cv_aload_n C (pc' := 35) rfl (D 17 (34, .aload_n 0, 1) rfl) rfl (j := 0) rfl ?_
          refine cv_get C (pc' := 38) rfl (k0 := 0) (i := 2) (ci := 7) (by decide) rfl rfl (by decide) (o := some 1) rfl iw_X7 wfX7_9 (D 18 (35, .getfield 9, 3) rfl) rfl ?_
          refine cv_iload_n C (pc' := 39) rfl (D 19 (38, .iload_n 1, 1) rfl) rfl (j := 1) rfl ?_
          refine cv_iald C (pc' := 40) rfl (k0 := 1) (j := j) (by decide) rfl rfl (by omega) (by decide) (D 20 (39, .iaload, 1) rfl) (v := nI q.1) ((congrFun (cv_u_c (by omega)) _).trans hS1.1) ?_
          refine cv_iload_n C (pc' := 41) rfl (D 21 (40, .iload_n 3, 1) rfl) rfl (j := 3) rfl ?_
          refine cv_icmp_eq C (pc' := 44) rfl (tgt := 50) (D 22 (41, .if_icmp .eq 9, 3) rfl) (by decide) (fun b41 => ?_) (fun b41 => ?_)
          · skip
            refine cv_aload_n C (pc' := 51) rfl (D 27 (50, .aload_n 0, 1) rfl) rfl (j := 0) rfl ?_
            refine cv_get C (pc' := 54) rfl (k0 := 0) (i := 2) (ci := 7) (by decide) rfl rfl (by decide) (o := some 1) rfl iw_X7 wfX7_9 (D 28 (51, .getfield 9, 3) rfl) rfl ?_
            refine cv_iload_n C (pc' := 55) rfl (D 29 (54, .iload_n 1, 1) rfl) rfl (j := 1) rfl ?_
            refine cv_iald C (pc' := 56) rfl (k0 := 1) (j := j) (by decide) rfl rfl (by omega) (by decide) (D 30 (55, .iaload, 1) rfl) (v := nI q.1) ((congrFun (cv_u_c (by omega)) _).trans hS1.1) ?_
            refine cv_bipush C (pc' := 58) rfl (D 31 (56, .bipush (-9), 2) rfl) (v := -9) (by decide) ?_
            refine cv_icmp_ne C (pc' := 61) rfl (tgt := 67) (D 32 (58, .if_icmp .ne 9, 3) rfl) (by decide) (fun b58 => ?_) (fun b58 => ?_)
            · skip
              refine cv_iload_n C (pc' := 68) rfl (D 37 (67, .iload_n 2, 1) rfl) rfl (j := 2) rfl ?_
              refine cv_iconst C (pc' := 69) rfl (D 38 (68, .iconst 0, 1) rfl) (v := nI 0) (by decide) ?_
              refine cv_aload_n C (pc' := 70) rfl (D 39 (69, .aload_n 0, 1) rfl) rfl (j := 0) rfl ?_
              refine cv_get C (pc' := 73) rfl (k0 := 0) (i := 3) (ci := 7) (by decide) rfl rfl (by decide) (o := some 2) rfl iw_X7 wfX7_13 (D 40 (70, .getfield 13, 3) rfl) rfl ?_
              refine cv_iload_n C (pc' := 74) rfl (D 41 (73, .iload_n 1, 1) rfl) rfl (j := 1) rfl ?_
              refine cv_iald C (pc' := 75) rfl (k0 := 2) (j := j) (by decide) rfl rfl (by omega) (by decide) (D 42 (74, .iaload, 1) rfl) (v := nI q.2) ((congrFun (cv_u_c (by omega)) _).trans hS1.2.1) ?_
              refine cv_iconst C (pc' := 76) rfl (D 43 (75, .iconst 1, 1) rfl) (v := nI 1) (by decide) ?_
              refine cv_isub C (pc' := 77) rfl (D 44 (76, .isub, 1) rfl) ?_
              refine cv_callS C (pc' := 80) rfl (As := [.int y, .int (nI 0), .int ((nI q.2) - (nI 1))]) (rest := []) (idx := 67) (np := 3) (kX7_within y (nI 0) (nI q.2 - nI 1) (cv_u μ 0 0 (nI 0))) (by decide +kernel) rfl wmX7_67 wt_yX7_within wn_X7 wc_yX7_within (by decide) (by decide) (D 45 (77, .invokestatic 67, 3) rfl) (Nat.le_of_ble_eq_true rfl) rfl (fun w9 u9 h9 => ?_)
              rw [h9.1, h9.2]
              show cv_At X _ _ (cv_u μ 0 0 (nI 0)) 80 _ [.int (cv_b (decide (nI 0 ≤ y ∧ y ≤ nI q.2 - nI 1)))]
              rw [cv_in_1 hq2]
              refine cv_if_neB C (pc' := 83) rfl (tgt := 89) (D 46 (80, .ifCond .ne 9, 3) rfl) (by decide) (fun b80 => ?_) (fun b80 => ?_)
              · skip
                have hfo : cv_fo (some q) z y (nI 1) = 0 := by unfold cv_fo; dsimp only; rw [if_pos b41, if_neg (nI_pos (by decide)), if_pos b80]
                obtain ⟨i, t1, hyi, ht1, hit⟩ := cv_hs_of hq2 b80
                have ht2 := (nI_eq (by decide) (by omega)).mp ht1
                subst hyi
                have hSc := (hSh j hj).2 (by rw [hq]; rfl)
                refine cv_aload_n C (pc' := 90) rfl (D 51 (89, .aload_n 0, 1) rfl) rfl (j := 0) rfl ?_
                refine cv_get C (pc' := 93) rfl (k0 := 0) (i := 4) (ci := 7) (by decide) rfl rfl (by decide) (o := some 3) rfl iw_X7 wfX7_16 (D 52 (90, .getfield 16, 3) rfl) rfl ?_
                refine cv_bipush C (pc' := 95) rfl (D 53 (93, .bipush 60, 2) rfl) (v := nI 60) (by decide) ?_
                refine cv_iload_n C (pc' := 96) rfl (D 54 (95, .iload_n 1, 1) rfl) rfl (j := 1) rfl ?_
                refine cv_imulN C (pc' := 97) rfl (D 55 (96, .imul, 1) rfl) ?_
                refine cv_iload_n C (pc' := 98) rfl (D 56 (97, .iload_n 2, 1) rfl) rfl (j := 2) rfl ?_
                refine cv_iaddN C (pc' := 99) rfl (D 57 (98, .iadd, 1) rfl) ?_
                refine cv_iald C (pc' := 100) rfl (k0 := 3) (j := (60 * j) + i) (by decide) rfl rfl (by omega) (by decide) (D 58 (99, .iaload, 1) rfl) (v := μ 3 ((60 * j) + i)) ((congrFun (cv_u_c (by omega)) _).trans rfl) ?_
                refine cv_i2l C (pc' := 101) rfl (D 59 (100, .i2l, 1) rfl) rfl ?_
                exact cv_lret C Rt (D 60 (101, .lreturn, 1) rfl) ⟨congrArg (fun z => some (Value.long z)) (by unfold cv_a_cell; rw [if_pos ⟨b9, b16, by rw [cv_nt, nI_clamp (show j < 2 ^ 31 by omega), hq, hfo]⟩, cv_nt, nI_clamp (show j < 2 ^ 31 by omega), cv_nt, nI_clamp (show i < 2 ^ 31 by omega), hSc i (by omega)]), by unfold cv_f_cell; rw [if_pos ⟨b9, b16⟩, cv_nt, nI_clamp (show j < 2 ^ 31 by omega), hq, hfo]; exact cv_RM_f _ hR⟩
              · skip
                have hfo : cv_fo (some q) z y (nI 1) = 3 := by unfold cv_fo; dsimp only; rw [if_pos b41, if_neg (nI_pos (by decide)), if_neg (by simp [b80])]
                refine cv_aload_n C (pc' := 84) rfl (D 47 (83, .aload_n 0, 1) rfl) rfl (j := 0) rfl ?_
                refine cv_iconst C (pc' := 85) rfl (D 48 (84, .iconst 3, 1) rfl) (v := nI 3) (by decide) ?_
                refine cv_callV C (pc' := 88) rfl (k0 := 0) (ci := 7) (As := [.int (nI 3)]) (rest := []) (idx := 196) (np := 1) (kX7_lost 3 (cv_u μ 0 0 (nI 0))) (by decide) rfl rfl rfl (by decide +kernel) rfl wmX7_196 wi_yX7_lost ws_yX7_lost wn_X7 wc_yX7_lost (by decide) (by decide) (D 49 (85, .invokevirtual 196, 3) rfl) (Nat.le_of_ble_eq_true rfl) rfl (fun w85 u85 h85 => ?_)
                rw [h85.1, h85.2, cv_uu]
                show cv_At X _ _ (cv_u μ 0 0 (nI 3)) 88 _ [.long (-9223372036854775808)]
                exact cv_lret C Rt (D 50 (88, .lreturn, 1) rfl) ⟨congrArg (fun z => some (Value.long z)) (by unfold cv_a_cell; rw [if_neg (fun h => by rw [cv_nt, nI_clamp (show j < 2 ^ 31 by omega), hq, hfo] at h; omega)]), by unfold cv_f_cell; rw [if_pos ⟨b9, b16⟩, cv_nt, nI_clamp (show j < 2 ^ 31 by omega), hq, hfo]; exact cv_RM_f _ hR⟩
            · skip
              exact absurd b58 (cv_m9 (by omega))
          · skip
            have hfo : cv_fo (some q) z y (nI 1) = 2 := if_neg b41
            refine cv_aload_n C (pc' := 45) rfl (D 23 (44, .aload_n 0, 1) rfl) rfl (j := 0) rfl ?_
            refine cv_iconst C (pc' := 46) rfl (D 24 (45, .iconst 2, 1) rfl) (v := nI 2) (by decide) ?_
            refine cv_callV C (pc' := 49) rfl (k0 := 0) (ci := 7) (As := [.int (nI 2)]) (rest := []) (idx := 196) (np := 1) (kX7_lost 2 (cv_u μ 0 0 (nI 0))) (by decide) rfl rfl rfl (by decide +kernel) rfl wmX7_196 wi_yX7_lost ws_yX7_lost wn_X7 wc_yX7_lost (by decide) (by decide) (D 25 (46, .invokevirtual 196, 3) rfl) (Nat.le_of_ble_eq_true rfl) rfl (fun w46 u46 h46 => ?_)
            rw [h46.1, h46.2, cv_uu]
            show cv_At X _ _ (cv_u μ 0 0 (nI 2)) 49 _ [.long (-9223372036854775808)]
            exact cv_lret C Rt (D 26 (49, .lreturn, 1) rfl) ⟨congrArg (fun z => some (Value.long z)) (by unfold cv_a_cell; rw [if_neg (fun h => by rw [cv_nt, nI_clamp (show j < 2 ^ 31 by omega), hq, hfo] at h; omega)]), by unfold cv_f_cell; rw [if_pos ⟨b9, b16⟩, cv_nt, nI_clamp (show j < 2 ^ 31 by omega), hq, hfo]; exact cv_RM_f _ hR⟩
    · skip
      refine cv_ldc2 C (pc' := 22) rfl wlX7_65 (D 9 (19, .ldc2_w 65, 3) rfl) ?_
      exact cv_lret C Rt (D 10 (22, .lreturn, 1) rfl) ⟨congrArg (fun z => some (Value.long z)) (by unfold cv_a_cell; rw [if_neg (by simp [b16])]), by unfold cv_f_cell; rw [if_neg (by simp [b16])]; exact cv_RM_f _ hR⟩

theorem cv_cp_u {τ : cv_St} {g : Nat → Int32} {D S i : Nat} (h : ∀ m, τ 3 m = if D ≤ m ∧ m < D + i then g (S + (m - D)) else g m) (hs : ∀ c, c < i → D + c ≠ S + i) : ∀ m, cv_u τ 3 (D + i) (τ 3 (S + i)) 3 m = if D ≤ m ∧ m < D + (i + 1) then g (S + (m - D)) else g m := by
  intro m
  by_cases e : m = D + i
  · subst e
    rw [cv_u_s, h, if_neg (fun q => hs (S + i - D) (by omega) (by omega)), if_pos (by omega), show D + i - D = i by omega]
  · rw [cv_u_i e, h]
    by_cases q : D ≤ m ∧ m < D + i
    · rw [if_pos q, if_pos (by omega)]
    · rw [if_neg q, if_neg (by omega)]
theorem cv_cp_d {τ : cv_St} {g : Nat → Int32} {D S i n : Nat} (hi : i < n) (h : ∀ m, τ 3 m = if D + (n - i) ≤ m ∧ m < D + n then g (S + (m - D)) else g m) (hs : ∀ c, n - i ≤ c → c < n → D + c ≠ S + (n - 1 - i)) : ∀ m, cv_u τ 3 (D + (n - 1 - i)) (τ 3 (S + (n - 1 - i))) 3 m = if D + (n - (i + 1)) ≤ m ∧ m < D + n then g (S + (m - D)) else g m := by
  intro m
  by_cases e : m = D + (n - 1 - i)
  · subst e
    rw [cv_u_s, h, if_neg (fun q => hs (S + (n - 1 - i) - D) (by omega) (by omega) (by omega)), if_pos (by omega), show D + (n - 1 - i) - D = n - 1 - i by omega]
  · rw [cv_u_i e, h]
    by_cases q : D + (n - i) ≤ m ∧ m < D + n
    · rw [if_pos q, if_pos (by omega)]
    · rw [if_neg q, if_neg (by omega)]
theorem cv_RM_copy {tr : Int32} {ft : Nat} {sl : Nat → Option (Nat × Nat)} {sc : Nat → Nat → Int32} {L : cv_L} {rc : Nat} {rd : Nat → Nat} {rn : Nat → Option Nat} {μ τ : cv_St} {j k i1 i2 n : Nat} {qj qk : Nat × Nat} (hj : j < 4) (hk : k < 4) (ej : sl j = some qj) (ek : sl k = some qk) (h1 : i1 + n ≤ 60) (h2 : i2 + n ≤ 60) (hK : ∀ c, c ≠ 3 → τ c = cv_u μ 0 0 (nI 0) c) (hT : ∀ m, τ 3 m = if 60 * k + i2 ≤ m ∧ m < 60 * k + i2 + n then μ 3 (60 * j + i1 + (m - (60 * k + i2))) else μ 3 m) (hR : cv_RM tr ft sl sc L rc rd rn μ) : cv_RM tr 0 sl (cv_ss sc k (va_cpy (sc j) (sc k) i1 i2 n)) L rc rd rn τ := by
  have hSj := (hR.2.2.1 j hj).2 (by rw [ej]; rfl)
  have hSk := hR.2.2.1 k hk
  rw [ek] at hSk
  refine cv_RM_same (fun m hm => (cv_ss_id ek m).symm) (cv_RM_S (μ := cv_u μ 0 0 (nI 0)) (o := some qk) (fun c hc => hK c (by omega)) (fun _ _ => by rw [hK 1 (by decide)]) (fun _ _ => by rw [hK 2 (by decide)]) (fun m hm => by rw [hT, if_neg (by omega), cv_u_c (by decide)]) (by rw [hK 1 (by decide), hK 2 (by decide), cv_u_c (by decide), cv_u_c (by decide)]; exact hSk.1) (fun _ m hm => ?_) (cv_RM_f 0 hR))
  rw [hT]
  unfold va_cpy
  by_cases q : i2 ≤ m ∧ m < i2 + n
  · rw [if_pos q, if_pos (by omega), show 60 * j + i1 + (60 * k + m - (60 * k + i2)) = 60 * j + (i1 + (m - i2)) by omega]
    exact hSj _ (by omega)
  · rw [if_neg q, if_neg (by omega)]
    exact hSk.2 rfl m hm
set_option maxHeartbeats 4000000 in
set_option maxRecDepth 100000 in
theorem pX7_copy (tr : Int32) (ft : Nat) (sl : Nat → Option (Nat × Nat)) (sc : Nat → Nat → Int32) (L : cv_L) (rc : Nat) (rd : Nat → Nat) (rn : Nat → Option Nat) (x y z w t : Int32) (μ : cv_St) (hR : cv_RM tr ft sl sc L rc rd rn μ) (hB : cv_LB L) (hDB : cv_DB rc rd rn) : cv_Ct yX7_copy cX7_copy 10 (some .int) 2 0 0 17 cv_shM [.ref 0, .int x, .int y, .int z, .int w, .int t] μ (fun v u => v = some (.int (cv_a_copy sl x y z w t)) ∧ cv_RM tr (cv_f_copy sl x y z w t) sl (cv_n_copy sl sc x y z w t) L rc rd rn u) := by
  refine cv_enter (own := RX7) (by decide) rfl (Nat.le_of_ble_eq_true rfl) ?_
  intro X a C Rt hRm
  have D := @cv_dec _ _ dkX7_copy
  obtain ⟨hTr, hFt, hSh, hL, hM, hD⟩ := id hR
  have hn6 := hB.1
  have hrc := hDB.1
  show cv_At X _ _ μ 0 [(0, .ref 0), (1, .int x), (2, .int y), (3, .int z), (4, .int w), (5, .int t)] []
  refine cv_aload_n C (pc' := 1) rfl (D 0 (0, .aload_n 0, 1) rfl) rfl (j := 0) rfl ?_
  refine cv_iconst C (pc' := 2) rfl (D 1 (1, .iconst 0, 1) rfl) (v := nI 0) (by decide) ?_
  refine cv_put C (pc' := 5) rfl (k0 := 0) (i := 0) (ci := 7) (by decide) rfl rfl (by decide) rfl iw_X7 tyX7 tyX7_ok nmX7 wfX7_62 rfl rfl rfl (D 2 (2, .putfield 62, 3) rfl) ?_
  refine cv_iload_n C (pc' := 6) rfl (D 3 (5, .iload_n 1, 1) rfl) rfl (j := 1) rfl ?_
  refine cv_callS C (pc' := 9) rfl (As := [.int x]) (rest := []) (idx := 81) (np := 1) (kX7_isSheet x (cv_u μ 0 0 (nI 0))) (by decide +kernel) rfl wmX7_81 wt_yX7_isSheet wn_X7 wc_yX7_isSheet (by decide) (by decide) (D 4 (6, .invokestatic 81, 3) rfl) (Nat.le_of_ble_eq_true rfl) rfl (fun w9 u9 h9 => ?_)
  rw [h9.1, h9.2]
  show cv_At X _ _ (cv_u μ 0 0 (nI 0)) 9 _ [.int (cv_b (cv_in x 4))]
  refine cv_if_eqB C (pc' := 12) rfl (tgt := 19) (D 5 (9, .ifCond .eq 10, 3) rfl) (by decide) (fun b9 => ?_) (fun b9 => ?_)
  · skip
    refine cv_iconst C (pc' := 20) rfl (D 9 (19, .iconst (-1), 1) rfl) (v := -1) (by decide) ?_
    exact cv_iret C Rt rfl (D 10 (20, .ireturn, 1) rfl) ⟨congrArg (fun z => some (Value.int z)) (by unfold cv_a_copy; rw [if_neg (by simp [b9])]), by unfold cv_f_copy cv_n_copy; rw [if_neg (by simp [b9]), if_neg (by simp [b9])]; exact cv_RM_f _ hR⟩
  · skip
    refine cv_iload_n C (pc' := 13) rfl (D 6 (12, .iload_n 3, 1) rfl) rfl (j := 3) rfl ?_
    refine cv_callS C (pc' := 16) rfl (As := [.int z]) (rest := []) (idx := 81) (np := 1) (kX7_isSheet z (cv_u μ 0 0 (nI 0))) (by decide +kernel) rfl wmX7_81 wt_yX7_isSheet wn_X7 wc_yX7_isSheet (by decide) (by decide) (D 7 (13, .invokestatic 81, 3) rfl) (Nat.le_of_ble_eq_true rfl) rfl (fun w9 u9 h9 => ?_)
    rw [h9.1, h9.2]
    show cv_At X _ _ (cv_u μ 0 0 (nI 0)) 16 _ [.int (cv_b (cv_in z 4))]
    refine cv_if_neB C (pc' := 19) rfl (tgt := 21) (D 8 (16, .ifCond .ne 5, 3) rfl) (by decide) (fun b16 => ?_) (fun b16 => ?_)
    · skip
      obtain ⟨j, hj, rfl⟩ := cv_in_of b9 (by omega)
      obtain ⟨k, hk, rfl⟩ := cv_in_of b16 (by omega)
      have hSj := (hSh j hj).1
      have hSk := (hSh k hk).1
      cases ej : sl j with
      | none =>
        rw [ej] at hSj
        have hfc : cv_fc (sl j) (sl k) y w t = 1 := by rw [ej]; rfl
        refine cv_aload_n C (pc' := 22) rfl (D 11 (21, .aload_n 0, 1) rfl) rfl (j := 0) rfl ?_
        refine cv_get C (pc' := 25) rfl (k0 := 0) (i := 2) (ci := 7) (by decide) rfl rfl (by decide) (o := some 1) rfl iw_X7 wfX7_9 (D 12 (22, .getfield 9, 3) rfl) rfl ?_
        refine cv_iload_n C (pc' := 26) rfl (D 13 (25, .iload_n 1, 1) rfl) rfl (j := 1) rfl ?_
        refine cv_iald C (pc' := 27) rfl (k0 := 1) (j := j) (by decide) rfl rfl (by omega) (by decide) (D 14 (26, .iaload, 1) rfl) (v := -9) ((congrFun (cv_u_c (by omega)) _).trans hSj) ?_
        refine cv_bipush C (pc' := 29) rfl (D 15 (27, .bipush (-9), 2) rfl) (v := -9) (by decide) ?_
        refine cv_icmp_eq C (pc' := 32) rfl (tgt := 43) (D 16 (29, .if_icmp .eq 14, 3) rfl) (by decide) (fun _ => ?_) (fun h => absurd h (by decide))
        refine cv_aload_n C (pc' := 44) rfl (D 23 (43, .aload_n 0, 1) rfl) rfl (j := 0) rfl ?_
        refine cv_iconst C (pc' := 45) rfl (D 24 (44, .iconst 1, 1) rfl) (v := nI 1) (by decide) ?_
        refine cv_callV C (pc' := 48) rfl (k0 := 0) (ci := 7) (As := [.int (nI 1)]) (rest := []) (idx := 92) (np := 1) (kX7_fails 1 (cv_u μ 0 0 (nI 0))) (by decide) rfl rfl rfl (by decide +kernel) rfl wmX7_92 wi_yX7_fails ws_yX7_fails wn_X7 wc_yX7_fails (by decide) (by decide) (D 25 (45, .invokevirtual 92, 3) rfl) (Nat.le_of_ble_eq_true rfl) rfl (fun w45 u45 h45 => ?_)
        rw [h45.1, h45.2, cv_uu]
        show cv_At X _ _ (cv_u μ 0 0 (nI 1)) 48 _ [.int (-10 - nI 1)]
        exact cv_iret C Rt rfl (D 26 (48, .ireturn, 1) rfl) ⟨congrArg (fun z => some (Value.int z)) (by unfold cv_a_copy; simp only [cv_nt, nI_clamp (show j < 2 ^ 31 by omega), nI_clamp (show k < 2 ^ 31 by omega)]; rw [if_pos ⟨b9, b16⟩, hfc]; rw [if_neg (by decide)]), by unfold cv_f_copy cv_n_copy; simp only [cv_nt, nI_clamp (show j < 2 ^ 31 by omega), nI_clamp (show k < 2 ^ 31 by omega)]; rw [if_pos ⟨b9, b16⟩, hfc, if_neg (fun h => by have := h.2; cases this)]; exact cv_RM_f _ hR⟩
      | some qj =>
        rw [ej] at hSj
        have hj3 := hSj.2.2.1
        have hj60 := hSj.2.2.2
        cases ek : sl k with
        | none =>
          rw [ek] at hSk
          have hfc : cv_fc (sl j) (sl k) y w t = 1 := by rw [ej, ek]; rfl
          refine cv_aload_n C (pc' := 22) rfl (D 11 (21, .aload_n 0, 1) rfl) rfl (j := 0) rfl ?_
          refine cv_get C (pc' := 25) rfl (k0 := 0) (i := 2) (ci := 7) (by decide) rfl rfl (by decide) (o := some 1) rfl iw_X7 wfX7_9 (D 12 (22, .getfield 9, 3) rfl) rfl ?_
          refine cv_iload_n C (pc' := 26) rfl (D 13 (25, .iload_n 1, 1) rfl) rfl (j := 1) rfl ?_
          refine cv_iald C (pc' := 27) rfl (k0 := 1) (j := j) (by decide) rfl rfl (by omega) (by decide) (D 14 (26, .iaload, 1) rfl) (v := nI qj.1) ((congrFun (cv_u_c (by omega)) _).trans hSj.1) ?_
          refine cv_bipush C (pc' := 29) rfl (D 15 (27, .bipush (-9), 2) rfl) (v := -9) (by decide) ?_
          refine cv_icmp_eq C (pc' := 32) rfl (tgt := 43) (D 16 (29, .if_icmp .eq 14, 3) rfl) (by decide) (fun b29 => ?_) (fun b29 => ?_)
          · skip
            exact absurd b29 (cv_m9 (by omega))
          · skip
            refine cv_aload_n C (pc' := 33) rfl (D 17 (32, .aload_n 0, 1) rfl) rfl (j := 0) rfl ?_
            refine cv_get C (pc' := 36) rfl (k0 := 0) (i := 2) (ci := 7) (by decide) rfl rfl (by decide) (o := some 1) rfl iw_X7 wfX7_9 (D 18 (33, .getfield 9, 3) rfl) rfl ?_
            refine cv_iload_n C (pc' := 37) rfl (D 19 (36, .iload_n 3, 1) rfl) rfl (j := 3) rfl ?_
            refine cv_iald C (pc' := 38) rfl (k0 := 1) (j := k) (by decide) rfl rfl (by omega) (by decide) (D 20 (37, .iaload, 1) rfl) (v := -9) ((congrFun (cv_u_c (by omega)) _).trans hSk) ?_
            refine cv_bipush C (pc' := 40) rfl (D 21 (38, .bipush (-9), 2) rfl) (v := -9) (by decide) ?_
            refine cv_icmp_ne C (pc' := 43) rfl (tgt := 49) (D 22 (40, .if_icmp .ne 9, 3) rfl) (by decide) (fun h => absurd h (by decide)) (fun _ => ?_)
            refine cv_aload_n C (pc' := 44) rfl (D 23 (43, .aload_n 0, 1) rfl) rfl (j := 0) rfl ?_
            refine cv_iconst C (pc' := 45) rfl (D 24 (44, .iconst 1, 1) rfl) (v := nI 1) (by decide) ?_
            refine cv_callV C (pc' := 48) rfl (k0 := 0) (ci := 7) (As := [.int (nI 1)]) (rest := []) (idx := 92) (np := 1) (kX7_fails 1 (cv_u μ 0 0 (nI 0))) (by decide) rfl rfl rfl (by decide +kernel) rfl wmX7_92 wi_yX7_fails ws_yX7_fails wn_X7 wc_yX7_fails (by decide) (by decide) (D 25 (45, .invokevirtual 92, 3) rfl) (Nat.le_of_ble_eq_true rfl) rfl (fun w45 u45 h45 => ?_)
            rw [h45.1, h45.2, cv_uu]
            show cv_At X _ _ (cv_u μ 0 0 (nI 1)) 48 _ [.int (-10 - nI 1)]
            exact cv_iret C Rt rfl (D 26 (48, .ireturn, 1) rfl) ⟨congrArg (fun z => some (Value.int z)) (by unfold cv_a_copy; simp only [cv_nt, nI_clamp (show j < 2 ^ 31 by omega), nI_clamp (show k < 2 ^ 31 by omega)]; rw [if_pos ⟨b9, b16⟩, hfc]; rw [if_neg (by decide)]), by unfold cv_f_copy cv_n_copy; simp only [cv_nt, nI_clamp (show j < 2 ^ 31 by omega), nI_clamp (show k < 2 ^ 31 by omega)]; rw [if_pos ⟨b9, b16⟩, hfc, if_neg (fun h => by have := h.2; cases this)]; exact cv_RM_f _ hR⟩
        | some qk =>
          rw [ek] at hSk
          have hk3 := hSk.2.2.1
          have hk60 := hSk.2.2.2
          refine cv_aload_n C (pc' := 22) rfl (D 11 (21, .aload_n 0, 1) rfl) rfl (j := 0) rfl ?_
          refine cv_get C (pc' := 25) rfl (k0 := 0) (i := 2) (ci := 7) (by decide) rfl rfl (by decide) (o := some 1) rfl iw_X7 wfX7_9 (D 12 (22, .getfield 9, 3) rfl) rfl ?_
          refine cv_iload_n C (pc' := 26) rfl (D 13 (25, .iload_n 1, 1) rfl) rfl (j := 1) rfl ?_
          refine cv_iald C (pc' := 27) rfl (k0 := 1) (j := j) (by decide) rfl rfl (by omega) (by decide) (D 14 (26, .iaload, 1) rfl) (v := nI qj.1) ((congrFun (cv_u_c (by omega)) _).trans hSj.1) ?_
          refine cv_bipush C (pc' := 29) rfl (D 15 (27, .bipush (-9), 2) rfl) (v := -9) (by decide) ?_
          refine cv_icmp_eq C (pc' := 32) rfl (tgt := 43) (D 16 (29, .if_icmp .eq 14, 3) rfl) (by decide) (fun b29 => ?_) (fun b29 => ?_)
          · skip
            exact absurd b29 (cv_m9 (by omega))
          · skip
            refine cv_aload_n C (pc' := 33) rfl (D 17 (32, .aload_n 0, 1) rfl) rfl (j := 0) rfl ?_
            refine cv_get C (pc' := 36) rfl (k0 := 0) (i := 2) (ci := 7) (by decide) rfl rfl (by decide) (o := some 1) rfl iw_X7 wfX7_9 (D 18 (33, .getfield 9, 3) rfl) rfl ?_
            refine cv_iload_n C (pc' := 37) rfl (D 19 (36, .iload_n 3, 1) rfl) rfl (j := 3) rfl ?_
            refine cv_iald C (pc' := 38) rfl (k0 := 1) (j := k) (by decide) rfl rfl (by omega) (by decide) (D 20 (37, .iaload, 1) rfl) (v := nI qk.1) ((congrFun (cv_u_c (by omega)) _).trans hSk.1) ?_
            refine cv_bipush C (pc' := 40) rfl (D 21 (38, .bipush (-9), 2) rfl) (v := -9) (by decide) ?_
            refine cv_icmp_ne C (pc' := 43) rfl (tgt := 49) (D 22 (40, .if_icmp .ne 9, 3) rfl) (by decide) (fun b40 => ?_) (fun b40 => ?_)
            · skip
              refine cv_aload_n C (pc' := 50) rfl (D 27 (49, .aload_n 0, 1) rfl) rfl (j := 0) rfl ?_
              refine cv_get C (pc' := 53) rfl (k0 := 0) (i := 2) (ci := 7) (by decide) rfl rfl (by decide) (o := some 1) rfl iw_X7 wfX7_9 (D 28 (50, .getfield 9, 3) rfl) rfl ?_
              refine cv_iload_n C (pc' := 54) rfl (D 29 (53, .iload_n 1, 1) rfl) rfl (j := 1) rfl ?_
              refine cv_iald C (pc' := 55) rfl (k0 := 1) (j := j) (by decide) rfl rfl (by omega) (by decide) (D 30 (54, .iaload, 1) rfl) (v := nI qj.1) ((congrFun (cv_u_c (by omega)) _).trans hSj.1) ?_
              refine cv_aload_n C (pc' := 56) rfl (D 31 (55, .aload_n 0, 1) rfl) rfl (j := 0) rfl ?_
              refine cv_get C (pc' := 59) rfl (k0 := 0) (i := 2) (ci := 7) (by decide) rfl rfl (by decide) (o := some 1) rfl iw_X7 wfX7_9 (D 32 (56, .getfield 9, 3) rfl) rfl ?_
              refine cv_iload_n C (pc' := 60) rfl (D 33 (59, .iload_n 3, 1) rfl) rfl (j := 3) rfl ?_
              refine cv_iald C (pc' := 61) rfl (k0 := 1) (j := k) (by decide) rfl rfl (by omega) (by decide) (D 34 (60, .iaload, 1) rfl) (v := nI qk.1) ((congrFun (cv_u_c (by omega)) _).trans hSk.1) ?_
              refine cv_icmp_eqN C (pc' := 64) rfl (by omega) (by omega) (tgt := 70) (D 35 (61, .if_icmp .eq 9, 3) rfl) (by decide) (fun b61 => ?_) (fun b61 => ?_)
              · skip
                refine cv_iload_n C (pc' := 71) rfl (D 40 (70, .iload_n 2, 1) rfl) rfl (j := 2) rfl ?_
                refine cv_if_lt C (pc' := 74) rfl (tgt := 109) (D 41 (71, .ifCond .lt 38, 3) rfl) (by decide) (fun b71 => ?_) (fun b71 => ?_)
                · skip
                  refine cv_iconst C (pc' := 110) rfl (D 60 (109, .iconst 0, 1) rfl) (v := nI 0) (by decide) ?_
                  refine cv_istore C (pc' := 112) rfl (D 61 (110, .istore 6, 2) rfl) (by decide) (lv' := [(6, .int (nI 0)), (0, .ref 0), (1, .int (nI j)), (2, .int y), (3, .int (nI k)), (4, .int w), (5, .int t)]) rfl ?_
                  refine cv_iload C (pc' := 114) rfl (D 62 (112, .iload 6, 2) rfl) (j := 0) rfl ?_
                  refine cv_if_eq C (pc' := 117) rfl (tgt := 144) (D 63 (114, .ifCond .eq 30, 3) rfl) (by decide) (fun _ => ?_) (fun h => absurd h (by decide))
                  have hfc : cv_fc (sl j) (sl k) y w t = 3 := by rw [ej, ek]; unfold cv_fc; dsimp only; rw [if_pos b61, if_neg (fun h9 => by have h := (⟨of_decide_eq_true h9.1, of_decide_eq_true h9.2⟩ : _ ∧ _); exact h.1.1 b71)]
                  refine cv_aload_n C (pc' := 145) rfl (D 80 (144, .aload_n 0, 1) rfl) rfl (j := 1) rfl ?_
                  refine cv_iconst C (pc' := 146) rfl (D 81 (145, .iconst 3, 1) rfl) (v := nI 3) (by decide) ?_
                  refine cv_callV C (pc' := 149) rfl (k0 := 0) (ci := 7) (As := [.int (nI 3)]) (rest := []) (idx := 92) (np := 1) (kX7_fails 3 (cv_u μ 0 0 (nI 0))) (by decide) rfl rfl rfl (by decide +kernel) rfl wmX7_92 wi_yX7_fails ws_yX7_fails wn_X7 wc_yX7_fails (by decide) (by decide) (D 82 (146, .invokevirtual 92, 3) rfl) (Nat.le_of_ble_eq_true rfl) rfl (fun w146 u146 h146 => ?_)
                  rw [h146.1, h146.2, cv_uu]
                  show cv_At X _ _ (cv_u μ 0 0 (nI 3)) 149 _ [.int (-10 - nI 3)]
                  exact cv_iret C Rt rfl (D 83 (149, .ireturn, 1) rfl) ⟨congrArg (fun z => some (Value.int z)) (by unfold cv_a_copy; simp only [cv_nt, nI_clamp (show j < 2 ^ 31 by omega), nI_clamp (show k < 2 ^ 31 by omega)]; rw [if_pos ⟨b9, b16⟩, hfc]; rw [if_neg (by decide)]), by unfold cv_f_copy cv_n_copy; simp only [cv_nt, nI_clamp (show j < 2 ^ 31 by omega), nI_clamp (show k < 2 ^ 31 by omega)]; rw [if_pos ⟨b9, b16⟩, hfc, if_neg (fun h => by have := h.2; cases this)]; exact cv_RM_f _ hR⟩
                · skip
                  refine cv_iload C (pc' := 76) rfl (D 42 (74, .iload 4, 2) rfl) (j := 4) rfl ?_
                  refine cv_if_lt C (pc' := 79) rfl (tgt := 109) (D 43 (76, .ifCond .lt 33, 3) rfl) (by decide) (fun b76 => ?_) (fun b76 => ?_)
                  · skip
                    refine cv_iconst C (pc' := 110) rfl (D 60 (109, .iconst 0, 1) rfl) (v := nI 0) (by decide) ?_
                    refine cv_istore C (pc' := 112) rfl (D 61 (110, .istore 6, 2) rfl) (by decide) (lv' := [(6, .int (nI 0)), (0, .ref 0), (1, .int (nI j)), (2, .int y), (3, .int (nI k)), (4, .int w), (5, .int t)]) rfl ?_
                    refine cv_iload C (pc' := 114) rfl (D 62 (112, .iload 6, 2) rfl) (j := 0) rfl ?_
                    refine cv_if_eq C (pc' := 117) rfl (tgt := 144) (D 63 (114, .ifCond .eq 30, 3) rfl) (by decide) (fun _ => ?_) (fun h => absurd h (by decide))
                    have hfc : cv_fc (sl j) (sl k) y w t = 3 := by rw [ej, ek]; unfold cv_fc; dsimp only; rw [if_pos b61, if_neg (fun h9 => by have h := (⟨of_decide_eq_true h9.1, of_decide_eq_true h9.2⟩ : _ ∧ _); exact h.2.1 b76)]
                    refine cv_aload_n C (pc' := 145) rfl (D 80 (144, .aload_n 0, 1) rfl) rfl (j := 1) rfl ?_
                    refine cv_iconst C (pc' := 146) rfl (D 81 (145, .iconst 3, 1) rfl) (v := nI 3) (by decide) ?_
                    refine cv_callV C (pc' := 149) rfl (k0 := 0) (ci := 7) (As := [.int (nI 3)]) (rest := []) (idx := 92) (np := 1) (kX7_fails 3 (cv_u μ 0 0 (nI 0))) (by decide) rfl rfl rfl (by decide +kernel) rfl wmX7_92 wi_yX7_fails ws_yX7_fails wn_X7 wc_yX7_fails (by decide) (by decide) (D 82 (146, .invokevirtual 92, 3) rfl) (Nat.le_of_ble_eq_true rfl) rfl (fun w146 u146 h146 => ?_)
                    rw [h146.1, h146.2, cv_uu]
                    show cv_At X _ _ (cv_u μ 0 0 (nI 3)) 149 _ [.int (-10 - nI 3)]
                    exact cv_iret C Rt rfl (D 83 (149, .ireturn, 1) rfl) ⟨congrArg (fun z => some (Value.int z)) (by unfold cv_a_copy; simp only [cv_nt, nI_clamp (show j < 2 ^ 31 by omega), nI_clamp (show k < 2 ^ 31 by omega)]; rw [if_pos ⟨b9, b16⟩, hfc]; rw [if_neg (by decide)]), by unfold cv_f_copy cv_n_copy; simp only [cv_nt, nI_clamp (show j < 2 ^ 31 by omega), nI_clamp (show k < 2 ^ 31 by omega)]; rw [if_pos ⟨b9, b16⟩, hfc, if_neg (fun h => by have := h.2; cases this)]; exact cv_RM_f _ hR⟩
                  · skip
                    refine cv_iload C (pc' := 81) rfl (D 44 (79, .iload 5, 2) rfl) (j := 5) rfl ?_
                    refine cv_if_lt C (pc' := 84) rfl (tgt := 109) (D 45 (81, .ifCond .lt 28, 3) rfl) (by decide) (fun b81 => ?_) (fun b81 => ?_)
                    · skip
                      refine cv_iconst C (pc' := 110) rfl (D 60 (109, .iconst 0, 1) rfl) (v := nI 0) (by decide) ?_
                      refine cv_istore C (pc' := 112) rfl (D 61 (110, .istore 6, 2) rfl) (by decide) (lv' := [(6, .int (nI 0)), (0, .ref 0), (1, .int (nI j)), (2, .int y), (3, .int (nI k)), (4, .int w), (5, .int t)]) rfl ?_
                      refine cv_iload C (pc' := 114) rfl (D 62 (112, .iload 6, 2) rfl) (j := 0) rfl ?_
                      refine cv_if_eq C (pc' := 117) rfl (tgt := 144) (D 63 (114, .ifCond .eq 30, 3) rfl) (by decide) (fun _ => ?_) (fun h => absurd h (by decide))
                      have hfc : cv_fc (sl j) (sl k) y w t = 3 := by rw [ej, ek]; unfold cv_fc; dsimp only; rw [if_pos b61, if_neg (fun h9 => by have h := (⟨of_decide_eq_true h9.1, of_decide_eq_true h9.2⟩ : _ ∧ _); exact h.1.2.1 b81)]
                      refine cv_aload_n C (pc' := 145) rfl (D 80 (144, .aload_n 0, 1) rfl) rfl (j := 1) rfl ?_
                      refine cv_iconst C (pc' := 146) rfl (D 81 (145, .iconst 3, 1) rfl) (v := nI 3) (by decide) ?_
                      refine cv_callV C (pc' := 149) rfl (k0 := 0) (ci := 7) (As := [.int (nI 3)]) (rest := []) (idx := 92) (np := 1) (kX7_fails 3 (cv_u μ 0 0 (nI 0))) (by decide) rfl rfl rfl (by decide +kernel) rfl wmX7_92 wi_yX7_fails ws_yX7_fails wn_X7 wc_yX7_fails (by decide) (by decide) (D 82 (146, .invokevirtual 92, 3) rfl) (Nat.le_of_ble_eq_true rfl) rfl (fun w146 u146 h146 => ?_)
                      rw [h146.1, h146.2, cv_uu]
                      show cv_At X _ _ (cv_u μ 0 0 (nI 3)) 149 _ [.int (-10 - nI 3)]
                      exact cv_iret C Rt rfl (D 83 (149, .ireturn, 1) rfl) ⟨congrArg (fun z => some (Value.int z)) (by unfold cv_a_copy; simp only [cv_nt, nI_clamp (show j < 2 ^ 31 by omega), nI_clamp (show k < 2 ^ 31 by omega)]; rw [if_pos ⟨b9, b16⟩, hfc]; rw [if_neg (by decide)]), by unfold cv_f_copy cv_n_copy; simp only [cv_nt, nI_clamp (show j < 2 ^ 31 by omega), nI_clamp (show k < 2 ^ 31 by omega)]; rw [if_pos ⟨b9, b16⟩, hfc, if_neg (fun h => by have := h.2; cases this)]; exact cv_RM_f _ hR⟩
                    · skip
                      refine cv_iload_n C (pc' := 85) rfl (D 46 (84, .iload_n 2, 1) rfl) rfl (j := 2) rfl ?_
                      refine cv_aload_n C (pc' := 86) rfl (D 47 (85, .aload_n 0, 1) rfl) rfl (j := 0) rfl ?_
                      refine cv_get C (pc' := 89) rfl (k0 := 0) (i := 3) (ci := 7) (by decide) rfl rfl (by decide) (o := some 2) rfl iw_X7 wfX7_13 (D 48 (86, .getfield 13, 3) rfl) rfl ?_
                      refine cv_iload_n C (pc' := 90) rfl (D 49 (89, .iload_n 1, 1) rfl) rfl (j := 1) rfl ?_
                      refine cv_iald C (pc' := 91) rfl (k0 := 2) (j := j) (by decide) rfl rfl (by omega) (by decide) (D 50 (90, .iaload, 1) rfl) (v := nI qj.2) ((congrFun (cv_u_c (by omega)) _).trans hSj.2.1) ?_
                      refine cv_icmp_gt C (pc' := 94) rfl (tgt := 109) (D 51 (91, .if_icmp .gt 18, 3) rfl) (by decide) (fun b91 => ?_) (fun b91 => ?_)
                      · skip
                        refine cv_iconst C (pc' := 110) rfl (D 60 (109, .iconst 0, 1) rfl) (v := nI 0) (by decide) ?_
                        refine cv_istore C (pc' := 112) rfl (D 61 (110, .istore 6, 2) rfl) (by decide) (lv' := [(6, .int (nI 0)), (0, .ref 0), (1, .int (nI j)), (2, .int y), (3, .int (nI k)), (4, .int w), (5, .int t)]) rfl ?_
                        refine cv_iload C (pc' := 114) rfl (D 62 (112, .iload 6, 2) rfl) (j := 0) rfl ?_
                        refine cv_if_eq C (pc' := 117) rfl (tgt := 144) (D 63 (114, .ifCond .eq 30, 3) rfl) (by decide) (fun _ => ?_) (fun h => absurd h (by decide))
                        have hfc : cv_fc (sl j) (sl k) y w t = 3 := by rw [ej, ek]; unfold cv_fc; dsimp only; rw [if_pos b61, if_neg (fun h9 => by have h := (⟨of_decide_eq_true h9.1, of_decide_eq_true h9.2⟩ : _ ∧ _); exact Int32.not_lt.mpr h.1.2.2.1 b91)]
                        refine cv_aload_n C (pc' := 145) rfl (D 80 (144, .aload_n 0, 1) rfl) rfl (j := 1) rfl ?_
                        refine cv_iconst C (pc' := 146) rfl (D 81 (145, .iconst 3, 1) rfl) (v := nI 3) (by decide) ?_
                        refine cv_callV C (pc' := 149) rfl (k0 := 0) (ci := 7) (As := [.int (nI 3)]) (rest := []) (idx := 92) (np := 1) (kX7_fails 3 (cv_u μ 0 0 (nI 0))) (by decide) rfl rfl rfl (by decide +kernel) rfl wmX7_92 wi_yX7_fails ws_yX7_fails wn_X7 wc_yX7_fails (by decide) (by decide) (D 82 (146, .invokevirtual 92, 3) rfl) (Nat.le_of_ble_eq_true rfl) rfl (fun w146 u146 h146 => ?_)
                        rw [h146.1, h146.2, cv_uu]
                        show cv_At X _ _ (cv_u μ 0 0 (nI 3)) 149 _ [.int (-10 - nI 3)]
                        exact cv_iret C Rt rfl (D 83 (149, .ireturn, 1) rfl) ⟨congrArg (fun z => some (Value.int z)) (by unfold cv_a_copy; simp only [cv_nt, nI_clamp (show j < 2 ^ 31 by omega), nI_clamp (show k < 2 ^ 31 by omega)]; rw [if_pos ⟨b9, b16⟩, hfc]; rw [if_neg (by decide)]), by unfold cv_f_copy cv_n_copy; simp only [cv_nt, nI_clamp (show j < 2 ^ 31 by omega), nI_clamp (show k < 2 ^ 31 by omega)]; rw [if_pos ⟨b9, b16⟩, hfc, if_neg (fun h => by have := h.2; cases this)]; exact cv_RM_f _ hR⟩
                      · skip
                        refine cv_iload C (pc' := 96) rfl (D 52 (94, .iload 4, 2) rfl) (j := 4) rfl ?_
                        refine cv_aload_n C (pc' := 97) rfl (D 53 (96, .aload_n 0, 1) rfl) rfl (j := 0) rfl ?_
                        refine cv_get C (pc' := 100) rfl (k0 := 0) (i := 3) (ci := 7) (by decide) rfl rfl (by decide) (o := some 2) rfl iw_X7 wfX7_13 (D 54 (97, .getfield 13, 3) rfl) rfl ?_
                        refine cv_iload_n C (pc' := 101) rfl (D 55 (100, .iload_n 3, 1) rfl) rfl (j := 3) rfl ?_
                        refine cv_iald C (pc' := 102) rfl (k0 := 2) (j := k) (by decide) rfl rfl (by omega) (by decide) (D 56 (101, .iaload, 1) rfl) (v := nI qk.2) ((congrFun (cv_u_c (by omega)) _).trans hSk.2.1) ?_
                        refine cv_icmp_gt C (pc' := 105) rfl (tgt := 109) (D 57 (102, .if_icmp .gt 7, 3) rfl) (by decide) (fun b102 => ?_) (fun b102 => ?_)
                        · skip
                          refine cv_iconst C (pc' := 110) rfl (D 60 (109, .iconst 0, 1) rfl) (v := nI 0) (by decide) ?_
                          refine cv_istore C (pc' := 112) rfl (D 61 (110, .istore 6, 2) rfl) (by decide) (lv' := [(6, .int (nI 0)), (0, .ref 0), (1, .int (nI j)), (2, .int y), (3, .int (nI k)), (4, .int w), (5, .int t)]) rfl ?_
                          refine cv_iload C (pc' := 114) rfl (D 62 (112, .iload 6, 2) rfl) (j := 0) rfl ?_
                          refine cv_if_eq C (pc' := 117) rfl (tgt := 144) (D 63 (114, .ifCond .eq 30, 3) rfl) (by decide) (fun _ => ?_) (fun h => absurd h (by decide))
                          have hfc : cv_fc (sl j) (sl k) y w t = 3 := by rw [ej, ek]; unfold cv_fc; dsimp only; rw [if_pos b61, if_neg (fun h9 => by have h := (⟨of_decide_eq_true h9.1, of_decide_eq_true h9.2⟩ : _ ∧ _); exact Int32.not_lt.mpr h.2.2.2.1 b102)]
                          refine cv_aload_n C (pc' := 145) rfl (D 80 (144, .aload_n 0, 1) rfl) rfl (j := 1) rfl ?_
                          refine cv_iconst C (pc' := 146) rfl (D 81 (145, .iconst 3, 1) rfl) (v := nI 3) (by decide) ?_
                          refine cv_callV C (pc' := 149) rfl (k0 := 0) (ci := 7) (As := [.int (nI 3)]) (rest := []) (idx := 92) (np := 1) (kX7_fails 3 (cv_u μ 0 0 (nI 0))) (by decide) rfl rfl rfl (by decide +kernel) rfl wmX7_92 wi_yX7_fails ws_yX7_fails wn_X7 wc_yX7_fails (by decide) (by decide) (D 82 (146, .invokevirtual 92, 3) rfl) (Nat.le_of_ble_eq_true rfl) rfl (fun w146 u146 h146 => ?_)
                          rw [h146.1, h146.2, cv_uu]
                          show cv_At X _ _ (cv_u μ 0 0 (nI 3)) 149 _ [.int (-10 - nI 3)]
                          exact cv_iret C Rt rfl (D 83 (149, .ireturn, 1) rfl) ⟨congrArg (fun z => some (Value.int z)) (by unfold cv_a_copy; simp only [cv_nt, nI_clamp (show j < 2 ^ 31 by omega), nI_clamp (show k < 2 ^ 31 by omega)]; rw [if_pos ⟨b9, b16⟩, hfc]; rw [if_neg (by decide)]), by unfold cv_f_copy cv_n_copy; simp only [cv_nt, nI_clamp (show j < 2 ^ 31 by omega), nI_clamp (show k < 2 ^ 31 by omega)]; rw [if_pos ⟨b9, b16⟩, hfc, if_neg (fun h => by have := h.2; cases this)]; exact cv_RM_f _ hR⟩
                        · skip
                          refine cv_iconst C (pc' := 106) rfl (D 58 (105, .iconst 1, 1) rfl) (v := nI 1) (by decide) ?_
                          refine cv_goto C (tgt := 110) (D 59 (106, .goto 4, 3) rfl) (by decide) ?_
                          refine cv_istore C (pc' := 112) rfl (D 61 (110, .istore 6, 2) rfl) (by decide) (lv' := [(6, .int (nI 1)), (0, .ref 0), (1, .int (nI j)), (2, .int y), (3, .int (nI k)), (4, .int w), (5, .int t)]) rfl ?_
                          refine cv_iload C (pc' := 114) rfl (D 62 (112, .iload 6, 2) rfl) (j := 0) rfl ?_
                          refine cv_if_eq C (pc' := 117) rfl (tgt := 144) (D 63 (114, .ifCond .eq 30, 3) rfl) (by decide) (fun h => absurd h (by decide)) (fun _ => ?_)
                          refine cv_iload C (pc' := 119) rfl (D 64 (117, .iload 5, 2) rfl) (j := 6) rfl ?_
                          refine cv_aload_n C (pc' := 120) rfl (D 65 (119, .aload_n 0, 1) rfl) rfl (j := 1) rfl ?_
                          refine cv_get C (pc' := 123) rfl (k0 := 0) (i := 3) (ci := 7) (by decide) rfl rfl (by decide) (o := some 2) rfl iw_X7 wfX7_13 (D 66 (120, .getfield 13, 3) rfl) rfl ?_
                          refine cv_iload_n C (pc' := 124) rfl (D 67 (123, .iload_n 1, 1) rfl) rfl (j := 2) rfl ?_
                          refine cv_iald C (pc' := 125) rfl (k0 := 2) (j := j) (by decide) rfl rfl (by omega) (by decide) (D 68 (124, .iaload, 1) rfl) (v := nI qj.2) ((congrFun (cv_u_c (by omega)) _).trans hSj.2.1) ?_
                          refine cv_iload_n C (pc' := 126) rfl (D 69 (125, .iload_n 2, 1) rfl) rfl (j := 3) rfl ?_
                          refine cv_isub C (pc' := 127) rfl (D 70 (126, .isub, 1) rfl) ?_
                          refine cv_icmp_gt C (pc' := 130) rfl (tgt := 144) (D 71 (127, .if_icmp .gt 17, 3) rfl) (by decide) (fun b127 => ?_) (fun b127 => ?_)
                          · skip
                            have hfc : cv_fc (sl j) (sl k) y w t = 3 := by rw [ej, ek]; unfold cv_fc; dsimp only; rw [if_pos b61, if_neg (fun h9 => by have h := (⟨of_decide_eq_true h9.1, of_decide_eq_true h9.2⟩ : _ ∧ _); exact Int32.not_lt.mpr h.1.2.2.2 b127)]
                            refine cv_aload_n C (pc' := 145) rfl (D 80 (144, .aload_n 0, 1) rfl) rfl (j := 1) rfl ?_
                            refine cv_iconst C (pc' := 146) rfl (D 81 (145, .iconst 3, 1) rfl) (v := nI 3) (by decide) ?_
                            refine cv_callV C (pc' := 149) rfl (k0 := 0) (ci := 7) (As := [.int (nI 3)]) (rest := []) (idx := 92) (np := 1) (kX7_fails 3 (cv_u μ 0 0 (nI 0))) (by decide) rfl rfl rfl (by decide +kernel) rfl wmX7_92 wi_yX7_fails ws_yX7_fails wn_X7 wc_yX7_fails (by decide) (by decide) (D 82 (146, .invokevirtual 92, 3) rfl) (Nat.le_of_ble_eq_true rfl) rfl (fun w146 u146 h146 => ?_)
                            rw [h146.1, h146.2, cv_uu]
                            show cv_At X _ _ (cv_u μ 0 0 (nI 3)) 149 _ [.int (-10 - nI 3)]
                            exact cv_iret C Rt rfl (D 83 (149, .ireturn, 1) rfl) ⟨congrArg (fun z => some (Value.int z)) (by unfold cv_a_copy; simp only [cv_nt, nI_clamp (show j < 2 ^ 31 by omega), nI_clamp (show k < 2 ^ 31 by omega)]; rw [if_pos ⟨b9, b16⟩, hfc]; rw [if_neg (by decide)]), by unfold cv_f_copy cv_n_copy; simp only [cv_nt, nI_clamp (show j < 2 ^ 31 by omega), nI_clamp (show k < 2 ^ 31 by omega)]; rw [if_pos ⟨b9, b16⟩, hfc, if_neg (fun h => by have := h.2; cases this)]; exact cv_RM_f _ hR⟩
                          · skip
                            refine cv_iload C (pc' := 132) rfl (D 72 (130, .iload 5, 2) rfl) (j := 6) rfl ?_
                            refine cv_aload_n C (pc' := 133) rfl (D 73 (132, .aload_n 0, 1) rfl) rfl (j := 1) rfl ?_
                            refine cv_get C (pc' := 136) rfl (k0 := 0) (i := 3) (ci := 7) (by decide) rfl rfl (by decide) (o := some 2) rfl iw_X7 wfX7_13 (D 74 (133, .getfield 13, 3) rfl) rfl ?_
                            refine cv_iload_n C (pc' := 137) rfl (D 75 (136, .iload_n 3, 1) rfl) rfl (j := 4) rfl ?_
                            refine cv_iald C (pc' := 138) rfl (k0 := 2) (j := k) (by decide) rfl rfl (by omega) (by decide) (D 76 (137, .iaload, 1) rfl) (v := nI qk.2) ((congrFun (cv_u_c (by omega)) _).trans hSk.2.1) ?_
                            refine cv_iload C (pc' := 140) rfl (D 77 (138, .iload 4, 2) rfl) (j := 5) rfl ?_
                            refine cv_isub C (pc' := 141) rfl (D 78 (140, .isub, 1) rfl) ?_
                            refine cv_icmp_le C (pc' := 144) rfl (tgt := 150) (D 79 (141, .if_icmp .le 9, 3) rfl) (by decide) (fun b141 => ?_) (fun b141 => ?_)
                            · skip
                              have hh1 : cv_hs qj.2 y t = true := decide_eq_true ⟨b71, b81, Int32.not_lt.mp b91, Int32.not_lt.mp b127⟩
                              have hh2 : cv_hs qk.2 w t = true := decide_eq_true ⟨b76, b81, Int32.not_lt.mp b102, b141⟩
                              have hfc : cv_fc (sl j) (sl k) y w t = 0 := by rw [ej, ek]; unfold cv_fc; dsimp only; rw [if_pos b61, if_pos ⟨hh1, hh2⟩]
                              obtain ⟨i1, n1, e1, e2, h1⟩ := cv_hs_of hj60 hh1
                              obtain ⟨i2, n2, e3, e4, h2⟩ := cv_hs_of hk60 hh2
                              have e5 := (nI_eq (by omega) (by omega)).mp (e2.symm.trans e4)
                              subst e5
                              subst e1
                              subst e2
                              subst e3
                              refine cv_iload_n C (pc' := 151) rfl (D 84 (150, .iload_n 2, 1) rfl) rfl (j := 3) rfl ?_
                              refine cv_iload C (pc' := 153) rfl (D 85 (151, .iload 4, 2) rfl) (j := 5) rfl ?_
                              refine cv_icmp_geN C (pc' := 156) rfl (by omega) (by omega) (tgt := 160) (D 86 (153, .if_icmp .ge 7, 3) rfl) (by decide) (fun b153 => ?_) (fun b153 => ?_)
                              · skip
                                refine cv_iconst C (pc' := 161) rfl (D 89 (160, .iconst 0, 1) rfl) (v := nI 0) (by decide) ?_
                                refine cv_istore C (pc' := 163) rfl (D 90 (161, .istore 7, 2) rfl) (by decide) (lv' := [(7, .int (nI 0)), (6, .int (nI 1)), (0, .ref 0), (1, .int (nI j)), (2, .int (nI i1)), (3, .int (nI k)), (4, .int (nI i2)), (5, .int (nI n1))]) rfl ?_
                                refine cv_iconst C (pc' := 164) rfl (D 91 (163, .iconst 0, 1) rfl) (v := nI 0) (by decide) ?_
                                refine cv_istore C (pc' := 166) rfl (D 92 (164, .istore 8, 2) rfl) (by decide) (lv' := [(8, .int (nI 0)), (7, .int (nI 0)), (6, .int (nI 1)), (0, .ref 0), (1, .int (nI j)), (2, .int (nI i1)), (3, .int (nI k)), (4, .int (nI i2)), (5, .int (nI n1))]) rfl ?_
                                have LP166 : ∀ (r : Nat) (i : Nat) (τ : cv_St), (i + r = n1) → (∀ c, c ≠ 3 → τ c = cv_u μ 0 0 (nI 0) c) → (∀ m, τ 3 m = if 60 * k + i2 ≤ m ∧ m < 60 * k + i2 + i then μ 3 (60 * j + i1 + (m - (60 * k + i2))) else μ 3 m) → cv_At X (17, cv_shM, 0, 0, a) 10 τ 166 [(8, .int (nI i)), (7, .int (nI 0)), (0, .ref 0), (1, .int (nI j)), (2, .int (nI i1)), (3, .int (nI k)), (4, .int (nI i2)), (5, .int (nI n1))] [] := by
                                  intro r
                                  induction r with
                                  | zero =>
                                    intro i τ hr hK hT
                                    obtain rfl : n1 = i := by omega
                                    refine cv_iload C (pc' := 168) rfl (D 93 (166, .iload 8, 2) rfl) (j := 0) rfl ?_
                                    refine cv_iload C (pc' := 170) rfl (D 94 (168, .iload 5, 2) rfl) (j := 7) rfl ?_
                                    refine cv_icmp_geN C (pc' := 173) rfl (by omega) (by omega) (tgt := 227) (D 95 (170, .if_icmp .ge 57, 3) rfl) (by decide) (fun b170 => ?_) (fun b170 => ?_)
                                    · skip
                                      refine cv_iload C (pc' := 229) rfl (D 128 (227, .iload 5, 2) rfl) (j := 7) rfl ?_
                                      exact cv_iret C Rt rfl (D 129 (229, .ireturn, 1) rfl) ⟨congrArg (fun z => some (Value.int z)) (by unfold cv_a_copy; simp only [cv_nt, nI_clamp (show j < 2 ^ 31 by omega), nI_clamp (show k < 2 ^ 31 by omega)]; rw [if_pos ⟨b9, b16⟩, hfc]; rw [if_pos rfl]), by unfold cv_f_copy cv_n_copy; simp only [cv_nt, nI_clamp (show j < 2 ^ 31 by omega), nI_clamp (show k < 2 ^ 31 by omega)]; rw [if_pos ⟨b9, b16⟩, hfc, if_pos ⟨⟨b9, b16⟩, rfl⟩]; simp only [cv_nt, nI_clamp (show j < 2 ^ 31 by omega), nI_clamp (show k < 2 ^ 31 by omega), nI_clamp (show i1 < 2 ^ 31 by omega), nI_clamp (show i2 < 2 ^ 31 by omega), nI_clamp (show n1 < 2 ^ 31 by omega)]; exact cv_RM_copy hj hk ej ek (by omega) (by omega) hK hT hR⟩
                                    · skip
                                      omega
                                  | succ r ih166 =>
                                    intro i τ hr hK hT
                                    refine cv_iload C (pc' := 168) rfl (D 93 (166, .iload 8, 2) rfl) (j := 0) rfl ?_
                                    refine cv_iload C (pc' := 170) rfl (D 94 (168, .iload 5, 2) rfl) (j := 7) rfl ?_
                                    refine cv_icmp_geN C (pc' := 173) rfl (by omega) (by omega) (tgt := 227) (D 95 (170, .if_icmp .ge 57, 3) rfl) (by decide) (fun b170 => ?_) (fun b170 => ?_)
                                    · skip
                                      omega
                                    · skip
                                      refine cv_iload C (pc' := 175) rfl (D 96 (173, .iload 7, 2) rfl) (j := 1) rfl ?_
                                      refine cv_if_eq C (pc' := 178) rfl (tgt := 188) (D 97 (175, .ifCond .eq 13, 3) rfl) (by decide) (fun _ => ?_) (fun h => absurd h (by decide))
                                      refine cv_iload C (pc' := 190) rfl (D 104 (188, .iload 8, 2) rfl) (j := 0) rfl ?_
                                      refine cv_istore C (pc' := 192) rfl (D 105 (190, .istore 9, 2) rfl) (by decide) (lv' := [(9, .int (nI i)), (8, .int (nI i)), (7, .int (nI 0)), (0, .ref 0), (1, .int (nI j)), (2, .int (nI i1)), (3, .int (nI k)), (4, .int (nI i2)), (5, .int (nI n1))]) rfl ?_
                                      refine cv_aload_n C (pc' := 193) rfl (D 106 (192, .aload_n 0, 1) rfl) rfl (j := 3) rfl ?_
                                      refine cv_get C (pc' := 196) rfl (k0 := 0) (i := 4) (ci := 7) (by decide) rfl rfl (by decide) (o := some 3) rfl iw_X7 wfX7_16 (D 107 (193, .getfield 16, 3) rfl) rfl ?_
                                      refine cv_bipush C (pc' := 198) rfl (D 108 (196, .bipush 60, 2) rfl) (v := nI 60) (by decide) ?_
                                      refine cv_iload_n C (pc' := 199) rfl (D 109 (198, .iload_n 3, 1) rfl) rfl (j := 6) rfl ?_
                                      refine cv_imulN C (pc' := 200) rfl (D 110 (199, .imul, 1) rfl) ?_
                                      refine cv_iload C (pc' := 202) rfl (D 111 (200, .iload 4, 2) rfl) (j := 7) rfl ?_
                                      refine cv_iaddN C (pc' := 203) rfl (D 112 (202, .iadd, 1) rfl) ?_
                                      refine cv_iload C (pc' := 205) rfl (D 113 (203, .iload 9, 2) rfl) (j := 0) rfl ?_
                                      refine cv_iaddN C (pc' := 206) rfl (D 114 (205, .iadd, 1) rfl) ?_
                                      refine cv_aload_n C (pc' := 207) rfl (D 115 (206, .aload_n 0, 1) rfl) rfl (j := 3) rfl ?_
                                      refine cv_get C (pc' := 210) rfl (k0 := 0) (i := 4) (ci := 7) (by decide) rfl rfl (by decide) (o := some 3) rfl iw_X7 wfX7_16 (D 116 (207, .getfield 16, 3) rfl) rfl ?_
                                      refine cv_bipush C (pc' := 212) rfl (D 117 (210, .bipush 60, 2) rfl) (v := nI 60) (by decide) ?_
                                      refine cv_iload_n C (pc' := 213) rfl (D 118 (212, .iload_n 1, 1) rfl) rfl (j := 4) rfl ?_
                                      refine cv_imulN C (pc' := 214) rfl (D 119 (213, .imul, 1) rfl) ?_
                                      refine cv_iload_n C (pc' := 215) rfl (D 120 (214, .iload_n 2, 1) rfl) rfl (j := 5) rfl ?_
                                      refine cv_iaddN C (pc' := 216) rfl (D 121 (215, .iadd, 1) rfl) ?_
                                      refine cv_iload C (pc' := 218) rfl (D 122 (216, .iload 9, 2) rfl) (j := 0) rfl ?_
                                      refine cv_iaddN C (pc' := 219) rfl (D 123 (218, .iadd, 1) rfl) ?_
                                      refine cv_iald C (pc' := 220) rfl (k0 := 3) (j := ((60 * j) + i1) + i) (by decide) rfl rfl (by omega) (by decide) (D 124 (219, .iaload, 1) rfl) (v := τ 3 (((60 * j) + i1) + i)) rfl ?_
                                      refine cv_iast C (pc' := 221) rfl (k0 := 3) (j := ((60 * k) + i2) + i) (by decide) rfl rfl (by omega) (by decide) (D 125 (220, .iastore, 1) rfl) ?_
                                      refine cv_iincN C (pc' := 224) rfl (D 126 (221, .iinc 8 1, 3) rfl) (j := 1) rfl (by decide) (lv' := [(8, .int (nI (i + 1))), (9, .int (nI i)), (7, .int (nI 0)), (0, .ref 0), (1, .int (nI j)), (2, .int (nI i1)), (3, .int (nI k)), (4, .int (nI i2)), (5, .int (nI n1))]) rfl ?_
                                      refine cv_goto C (tgt := 166) (D 127 (224, .goto (-58), 3) rfl) (by decide) ?_
                                      refine cv_pick [0, 2, 3, 4, 5, 6, 7, 8] (lv' := [(8, .int (nI (i + 1))), (7, .int (nI 0)), (0, .ref 0), (1, .int (nI j)), (2, .int (nI i1)), (3, .int (nI k)), (4, .int (nI i2)), (5, .int (nI n1))]) rfl ?_
                                      exact ih166 (i + 1) (cv_u τ 3 (((60 * k) + i2) + i) (τ 3 (((60 * j) + i1) + i))) (by omega) (fun c hc => by rw [cv_u_c hc]; exact hK c hc) (cv_cp_u hT (fun c _ => by omega))
                                refine cv_pick [0, 1, 3, 4, 5, 6, 7, 8] (lv' := [(8, .int (nI 0)), (7, .int (nI 0)), (0, .ref 0), (1, .int (nI j)), (2, .int (nI i1)), (3, .int (nI k)), (4, .int (nI i2)), (5, .int (nI n1))]) rfl ?_
                                exact LP166 n1 0 (cv_u μ 0 0 (nI 0)) (by omega) (fun _ _ => rfl) (fun m => by rw [if_neg (by omega), cv_u_c (by decide)])
                              · skip
                                refine cv_iconst C (pc' := 157) rfl (D 87 (156, .iconst 1, 1) rfl) (v := nI 1) (by decide) ?_
                                refine cv_goto C (tgt := 161) (D 88 (157, .goto 4, 3) rfl) (by decide) ?_
                                refine cv_istore C (pc' := 163) rfl (D 90 (161, .istore 7, 2) rfl) (by decide) (lv' := [(7, .int (nI 1)), (6, .int (nI 1)), (0, .ref 0), (1, .int (nI j)), (2, .int (nI i1)), (3, .int (nI k)), (4, .int (nI i2)), (5, .int (nI n1))]) rfl ?_
                                refine cv_iconst C (pc' := 164) rfl (D 91 (163, .iconst 0, 1) rfl) (v := nI 0) (by decide) ?_
                                refine cv_istore C (pc' := 166) rfl (D 92 (164, .istore 8, 2) rfl) (by decide) (lv' := [(8, .int (nI 0)), (7, .int (nI 1)), (6, .int (nI 1)), (0, .ref 0), (1, .int (nI j)), (2, .int (nI i1)), (3, .int (nI k)), (4, .int (nI i2)), (5, .int (nI n1))]) rfl ?_
                                have LP166 : ∀ (r : Nat) (i : Nat) (τ : cv_St), (i + r = n1) → (∀ c, c ≠ 3 → τ c = cv_u μ 0 0 (nI 0) c) → (∀ m, τ 3 m = if 60 * k + i2 + (n1 - i) ≤ m ∧ m < 60 * k + i2 + n1 then μ 3 (60 * j + i1 + (m - (60 * k + i2))) else μ 3 m) → cv_At X (17, cv_shM, 0, 0, a) 10 τ 166 [(8, .int (nI i)), (7, .int (nI 1)), (0, .ref 0), (1, .int (nI j)), (2, .int (nI i1)), (3, .int (nI k)), (4, .int (nI i2)), (5, .int (nI n1))] [] := by
                                  intro r
                                  induction r with
                                  | zero =>
                                    intro i τ hr hK hT
                                    obtain rfl : n1 = i := by omega
                                    refine cv_iload C (pc' := 168) rfl (D 93 (166, .iload 8, 2) rfl) (j := 0) rfl ?_
                                    refine cv_iload C (pc' := 170) rfl (D 94 (168, .iload 5, 2) rfl) (j := 7) rfl ?_
                                    refine cv_icmp_geN C (pc' := 173) rfl (by omega) (by omega) (tgt := 227) (D 95 (170, .if_icmp .ge 57, 3) rfl) (by decide) (fun b170 => ?_) (fun b170 => ?_)
                                    · skip
                                      refine cv_iload C (pc' := 229) rfl (D 128 (227, .iload 5, 2) rfl) (j := 7) rfl ?_
                                      exact cv_iret C Rt rfl (D 129 (229, .ireturn, 1) rfl) ⟨congrArg (fun z => some (Value.int z)) (by unfold cv_a_copy; simp only [cv_nt, nI_clamp (show j < 2 ^ 31 by omega), nI_clamp (show k < 2 ^ 31 by omega)]; rw [if_pos ⟨b9, b16⟩, hfc]; rw [if_pos rfl]), by unfold cv_f_copy cv_n_copy; simp only [cv_nt, nI_clamp (show j < 2 ^ 31 by omega), nI_clamp (show k < 2 ^ 31 by omega)]; rw [if_pos ⟨b9, b16⟩, hfc, if_pos ⟨⟨b9, b16⟩, rfl⟩]; simp only [cv_nt, nI_clamp (show j < 2 ^ 31 by omega), nI_clamp (show k < 2 ^ 31 by omega), nI_clamp (show i1 < 2 ^ 31 by omega), nI_clamp (show i2 < 2 ^ 31 by omega), nI_clamp (show n1 < 2 ^ 31 by omega)]; exact cv_RM_copy hj hk ej ek (by omega) (by omega) hK (fun m => by have := hT m; rw [show n1 - n1 = 0 by omega, Nat.add_zero] at this; exact this) hR⟩
                                    · skip
                                      omega
                                  | succ r ih166 =>
                                    intro i τ hr hK hT
                                    refine cv_iload C (pc' := 168) rfl (D 93 (166, .iload 8, 2) rfl) (j := 0) rfl ?_
                                    refine cv_iload C (pc' := 170) rfl (D 94 (168, .iload 5, 2) rfl) (j := 7) rfl ?_
                                    refine cv_icmp_geN C (pc' := 173) rfl (by omega) (by omega) (tgt := 227) (D 95 (170, .if_icmp .ge 57, 3) rfl) (by decide) (fun b170 => ?_) (fun b170 => ?_)
                                    · skip
                                      omega
                                    · skip
                                      refine cv_iload C (pc' := 175) rfl (D 96 (173, .iload 7, 2) rfl) (j := 1) rfl ?_
                                      refine cv_if_eq C (pc' := 178) rfl (tgt := 188) (D 97 (175, .ifCond .eq 13, 3) rfl) (by decide) (fun h => absurd h (by decide)) (fun _ => ?_)
                                      refine cv_iload C (pc' := 180) rfl (D 98 (178, .iload 5, 2) rfl) (j := 7) rfl ?_
                                      refine cv_iconst C (pc' := 181) rfl (D 99 (180, .iconst 1, 1) rfl) (v := nI 1) (by decide) ?_
                                      refine cv_isubN C (pc' := 182) rfl (by omega) (D 100 (181, .isub, 1) rfl) ?_
                                      refine cv_iload C (pc' := 184) rfl (D 101 (182, .iload 8, 2) rfl) (j := 0) rfl ?_
                                      refine cv_isubN C (pc' := 185) rfl (by omega) (D 102 (184, .isub, 1) rfl) ?_
                                      refine cv_goto C (tgt := 190) (D 103 (185, .goto 5, 3) rfl) (by decide) ?_
                                      refine cv_istore C (pc' := 192) rfl (D 105 (190, .istore 9, 2) rfl) (by decide) (lv' := [(9, .int (nI ((n1 - 1) - i))), (8, .int (nI i)), (7, .int (nI 1)), (0, .ref 0), (1, .int (nI j)), (2, .int (nI i1)), (3, .int (nI k)), (4, .int (nI i2)), (5, .int (nI n1))]) rfl ?_
                                      refine cv_aload_n C (pc' := 193) rfl (D 106 (192, .aload_n 0, 1) rfl) rfl (j := 3) rfl ?_
                                      refine cv_get C (pc' := 196) rfl (k0 := 0) (i := 4) (ci := 7) (by decide) rfl rfl (by decide) (o := some 3) rfl iw_X7 wfX7_16 (D 107 (193, .getfield 16, 3) rfl) rfl ?_
                                      refine cv_bipush C (pc' := 198) rfl (D 108 (196, .bipush 60, 2) rfl) (v := nI 60) (by decide) ?_
                                      refine cv_iload_n C (pc' := 199) rfl (D 109 (198, .iload_n 3, 1) rfl) rfl (j := 6) rfl ?_
                                      refine cv_imulN C (pc' := 200) rfl (D 110 (199, .imul, 1) rfl) ?_
                                      refine cv_iload C (pc' := 202) rfl (D 111 (200, .iload 4, 2) rfl) (j := 7) rfl ?_
                                      refine cv_iaddN C (pc' := 203) rfl (D 112 (202, .iadd, 1) rfl) ?_
                                      refine cv_iload C (pc' := 205) rfl (D 113 (203, .iload 9, 2) rfl) (j := 0) rfl ?_
                                      refine cv_iaddN C (pc' := 206) rfl (D 114 (205, .iadd, 1) rfl) ?_
                                      refine cv_aload_n C (pc' := 207) rfl (D 115 (206, .aload_n 0, 1) rfl) rfl (j := 3) rfl ?_
                                      refine cv_get C (pc' := 210) rfl (k0 := 0) (i := 4) (ci := 7) (by decide) rfl rfl (by decide) (o := some 3) rfl iw_X7 wfX7_16 (D 116 (207, .getfield 16, 3) rfl) rfl ?_
                                      refine cv_bipush C (pc' := 212) rfl (D 117 (210, .bipush 60, 2) rfl) (v := nI 60) (by decide) ?_
                                      refine cv_iload_n C (pc' := 213) rfl (D 118 (212, .iload_n 1, 1) rfl) rfl (j := 4) rfl ?_
                                      refine cv_imulN C (pc' := 214) rfl (D 119 (213, .imul, 1) rfl) ?_
                                      refine cv_iload_n C (pc' := 215) rfl (D 120 (214, .iload_n 2, 1) rfl) rfl (j := 5) rfl ?_
                                      refine cv_iaddN C (pc' := 216) rfl (D 121 (215, .iadd, 1) rfl) ?_
                                      refine cv_iload C (pc' := 218) rfl (D 122 (216, .iload 9, 2) rfl) (j := 0) rfl ?_
                                      refine cv_iaddN C (pc' := 219) rfl (D 123 (218, .iadd, 1) rfl) ?_
                                      refine cv_iald C (pc' := 220) rfl (k0 := 3) (j := ((60 * j) + i1) + ((n1 - 1) - i)) (by decide) rfl rfl (by omega) (by decide) (D 124 (219, .iaload, 1) rfl) (v := τ 3 (((60 * j) + i1) + ((n1 - 1) - i))) rfl ?_
                                      refine cv_iast C (pc' := 221) rfl (k0 := 3) (j := ((60 * k) + i2) + ((n1 - 1) - i)) (by decide) rfl rfl (by omega) (by decide) (D 125 (220, .iastore, 1) rfl) ?_
                                      refine cv_iincN C (pc' := 224) rfl (D 126 (221, .iinc 8 1, 3) rfl) (j := 1) rfl (by decide) (lv' := [(8, .int (nI (i + 1))), (9, .int (nI ((n1 - 1) - i))), (7, .int (nI 1)), (0, .ref 0), (1, .int (nI j)), (2, .int (nI i1)), (3, .int (nI k)), (4, .int (nI i2)), (5, .int (nI n1))]) rfl ?_
                                      refine cv_goto C (tgt := 166) (D 127 (224, .goto (-58), 3) rfl) (by decide) ?_
                                      refine cv_pick [0, 2, 3, 4, 5, 6, 7, 8] (lv' := [(8, .int (nI (i + 1))), (7, .int (nI 1)), (0, .ref 0), (1, .int (nI j)), (2, .int (nI i1)), (3, .int (nI k)), (4, .int (nI i2)), (5, .int (nI n1))]) rfl ?_
                                      exact ih166 (i + 1) (cv_u τ 3 (((60 * k) + i2) + ((n1 - 1) - i)) (τ 3 (((60 * j) + i1) + ((n1 - 1) - i)))) (by omega) (fun c hc => by rw [cv_u_c hc]; exact hK c hc) (cv_cp_d (by omega) hT (fun c _ _ => by omega))
                                refine cv_pick [0, 1, 3, 4, 5, 6, 7, 8] (lv' := [(8, .int (nI 0)), (7, .int (nI 1)), (0, .ref 0), (1, .int (nI j)), (2, .int (nI i1)), (3, .int (nI k)), (4, .int (nI i2)), (5, .int (nI n1))]) rfl ?_
                                exact LP166 n1 0 (cv_u μ 0 0 (nI 0)) (by omega) (fun _ _ => rfl) (fun m => by rw [if_neg (by omega), cv_u_c (by decide)])
                            · skip
                              have hfc : cv_fc (sl j) (sl k) y w t = 3 := by rw [ej, ek]; unfold cv_fc; dsimp only; rw [if_pos b61, if_neg (fun h9 => by have h := (⟨of_decide_eq_true h9.1, of_decide_eq_true h9.2⟩ : _ ∧ _); exact b141 h.2.2.2.2)]
                              refine cv_aload_n C (pc' := 145) rfl (D 80 (144, .aload_n 0, 1) rfl) rfl (j := 1) rfl ?_
                              refine cv_iconst C (pc' := 146) rfl (D 81 (145, .iconst 3, 1) rfl) (v := nI 3) (by decide) ?_
                              refine cv_callV C (pc' := 149) rfl (k0 := 0) (ci := 7) (As := [.int (nI 3)]) (rest := []) (idx := 92) (np := 1) (kX7_fails 3 (cv_u μ 0 0 (nI 0))) (by decide) rfl rfl rfl (by decide +kernel) rfl wmX7_92 wi_yX7_fails ws_yX7_fails wn_X7 wc_yX7_fails (by decide) (by decide) (D 82 (146, .invokevirtual 92, 3) rfl) (Nat.le_of_ble_eq_true rfl) rfl (fun w146 u146 h146 => ?_)
                              rw [h146.1, h146.2, cv_uu]
                              show cv_At X _ _ (cv_u μ 0 0 (nI 3)) 149 _ [.int (-10 - nI 3)]
                              exact cv_iret C Rt rfl (D 83 (149, .ireturn, 1) rfl) ⟨congrArg (fun z => some (Value.int z)) (by unfold cv_a_copy; simp only [cv_nt, nI_clamp (show j < 2 ^ 31 by omega), nI_clamp (show k < 2 ^ 31 by omega)]; rw [if_pos ⟨b9, b16⟩, hfc]; rw [if_neg (by decide)]), by unfold cv_f_copy cv_n_copy; simp only [cv_nt, nI_clamp (show j < 2 ^ 31 by omega), nI_clamp (show k < 2 ^ 31 by omega)]; rw [if_pos ⟨b9, b16⟩, hfc, if_neg (fun h => by have := h.2; cases this)]; exact cv_RM_f _ hR⟩
              · skip
                have hfc : cv_fc (sl j) (sl k) y w t = 2 := by rw [ej, ek]; unfold cv_fc; dsimp only; rw [if_neg b61]
                refine cv_aload_n C (pc' := 65) rfl (D 36 (64, .aload_n 0, 1) rfl) rfl (j := 0) rfl ?_
                refine cv_iconst C (pc' := 66) rfl (D 37 (65, .iconst 2, 1) rfl) (v := nI 2) (by decide) ?_
                refine cv_callV C (pc' := 69) rfl (k0 := 0) (ci := 7) (As := [.int (nI 2)]) (rest := []) (idx := 92) (np := 1) (kX7_fails 2 (cv_u μ 0 0 (nI 0))) (by decide) rfl rfl rfl (by decide +kernel) rfl wmX7_92 wi_yX7_fails ws_yX7_fails wn_X7 wc_yX7_fails (by decide) (by decide) (D 38 (66, .invokevirtual 92, 3) rfl) (Nat.le_of_ble_eq_true rfl) rfl (fun w66 u66 h66 => ?_)
                rw [h66.1, h66.2, cv_uu]
                show cv_At X _ _ (cv_u μ 0 0 (nI 2)) 69 _ [.int (-10 - nI 2)]
                exact cv_iret C Rt rfl (D 39 (69, .ireturn, 1) rfl) ⟨congrArg (fun z => some (Value.int z)) (by unfold cv_a_copy; simp only [cv_nt, nI_clamp (show j < 2 ^ 31 by omega), nI_clamp (show k < 2 ^ 31 by omega)]; rw [if_pos ⟨b9, b16⟩, hfc]; rw [if_neg (by decide)]), by unfold cv_f_copy cv_n_copy; simp only [cv_nt, nI_clamp (show j < 2 ^ 31 by omega), nI_clamp (show k < 2 ^ 31 by omega)]; rw [if_pos ⟨b9, b16⟩, hfc, if_neg (fun h => by have := h.2; cases this)]; exact cv_RM_f _ hR⟩
            · skip
              exact absurd b40 (cv_m9 (by omega))
    · skip
      refine cv_iconst C (pc' := 20) rfl (D 9 (19, .iconst (-1), 1) rfl) (v := -1) (by decide) ?_
      exact cv_iret C Rt rfl (D 10 (20, .ireturn, 1) rfl) ⟨congrArg (fun z => some (Value.int z)) (by unfold cv_a_copy; rw [if_neg (by simp [b16])]), by unfold cv_f_copy cv_n_copy; rw [if_neg (by simp [b16]), if_neg (by simp [b16])]; exact cv_RM_f _ hR⟩

