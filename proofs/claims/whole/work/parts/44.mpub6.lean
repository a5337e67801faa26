theorem cv_RM_S {tr : Int32} {ft : Nat} {sl : Nat → Option (Nat × Nat)} {sc : Nat → Nat → Int32} {L : cv_L} {rc : Nat} {rd : Nat → Nat} {rn : Nat → Option Nat} {μ u : cv_St} {k : Nat} {o : Option (Nat × Nat)} {f : Nat → Int32} (hu : ∀ c, c = 0 ∨ 3 < c → u c = μ c) (h1 : ∀ i, i ≠ k → u 1 i = μ 1 i) (h2 : ∀ i, i ≠ k → u 2 i = μ 2 i) (h3 : ∀ i, (i < 60 * k ∨ 60 * k + 60 ≤ i) → u 3 i = μ 3 i) (hS : cv_M1 o (u 1 k) (u 2 k)) (hf : o.isSome = true → ∀ i, i < 60 → u 3 (60 * k + i) = f i) (hR : cv_RM tr ft sl sc L rc rd rn μ) : cv_RM tr ft (cv_ss sl k o) (cv_ss sc k f) L rc rd rn u := by
  obtain ⟨g1, g2, g3, g4, g5, g6⟩ := hR
  refine ⟨by rw [hu 0 (by omega)]; exact g1, by rw [hu 0 (by omega)]; exact g2, fun j hj => ?_, ⟨by rw [hu 0 (by omega)]; exact g4.1, fun d hd => by rw [hu 4 (by omega)]; exact g4.2.1 d hd, fun v hv => by rw [hu 5 (by omega)]; exact g4.2.2.1 v hv, fun p hp i hi => by rw [hu (6 + i) (by omega)]; exact g4.2.2.2 p hp i hi⟩, by rw [hu 0 (by omega)]; exact g5, ⟨by rw [hu 0 (by omega)]; exact g6.1, fun q hq => by rw [hu 15 (by omega), hu 16 (by omega)]; exact g6.2 q hq⟩⟩
  by_cases e : j = k
  · subst e
    rw [cv_ss_s, cv_ss_s]
    exact ⟨hS, hf⟩
  · rw [cv_ss_n e, cv_ss_n e, h1 j e, h2 j e]
    exact ⟨(g3 j hj).1, fun ho i hi => by rw [h3 _ (by omega)]; exact (g3 j hj).2 ho i hi⟩
theorem cv_RM_same {tr : Int32} {ft : Nat} {sl sl' : Nat → Option (Nat × Nat)} {sc : Nat → Nat → Int32} {L : cv_L} {rc : Nat} {rd : Nat → Nat} {rn : Nat → Option Nat} {μ : cv_St} (h1 : ∀ k, k < 4 → sl' k = sl k) (hR : cv_RM tr ft sl sc L rc rd rn μ) : cv_RM tr ft sl' sc L rc rd rn μ := by
  obtain ⟨g1, g2, g3, g4, g5, g6⟩ := hR
  exact ⟨g1, g2, fun k hk => by rw [h1 k hk]; exact g3 k hk, g4, g5, g6⟩
theorem cv_in_1 {m : Nat} {y : Int32} (hm : m ≤ 60) : decide (nI 0 ≤ y ∧ y ≤ nI m - nI 1) = cv_hs m y (nI 1) := by
  rw [Bool.eq_iff_iff, decide_eq_true_iff]
  constructor
  · intro ⟨h1, h2⟩
    obtain ⟨i, hi, rfl⟩ := nI_of (Int32.not_lt.mpr h1)
    by_cases e : m = 0
    · subst e
      rw [show nI 0 - nI 1 = -1 by decide] at h2
      exact absurd (Int32.le_trans (nI_pos' hi) h2) (by decide)
    · rw [pk_sub (by omega)] at h2
      have := (nI_leI hi (by omega)).mp h2
      exact cv_hs_in hm (by omega)
  · intro h
    obtain ⟨i, j, rfl, hj, hij⟩ := cv_hs_of hm h
    have := (nI_eq (by decide) (by omega)).mp hj
    refine ⟨nI_le (by omega) (by omega), ?_⟩
    rw [pk_sub (by omega)]
    exact nI_le (by omega) (by omega)
set_option maxHeartbeats 4000000 in
set_option maxRecDepth 100000 in
theorem kX7_against (j : Nat) (o : Option (Nat × Nat)) (x y z : Int32) (μ : cv_St) (hj : j < 4) (hS : cv_M1 o (μ 1 j) (μ 2 j)) : cv_Ct yX7_against cX7_against 5 (some .int) 0 0 0 17 cv_shM [.ref 0, .int (nI j), .int x, .int y, .int z] μ (cv_pu (.int (nI (cv_fo o x y z))) μ) := by
  refine cv_enter (own := RX7) (by decide) rfl (Nat.le_of_ble_eq_true rfl) ?_
  intro X a C Rt hRm
  have D := @cv_dec _ _ dkX7_against
  show cv_At X _ _ μ 0 [(0, .ref 0), (1, .int (nI j)), (2, .int x), (3, .int y), (4, .int z)] []
  cases hq : o with
  | none =>
    have hS1 := hS
    rw [hq] at hS1
    refine cv_aload_n C (pc' := 1) rfl (D 0 (0, .aload_n 0, 1) rfl) rfl (j := 0) rfl ?_
    refine cv_get C (pc' := 4) rfl (k0 := 0) (i := 2) (ci := 7) (by decide) rfl rfl (by decide) (o := some 1) rfl iw_X7 wfX7_9 (D 1 (1, .getfield 9, 3) rfl) rfl ?_
    refine cv_iload_n C (pc' := 5) rfl (D 2 (4, .iload_n 1, 1) rfl) rfl (j := 1) rfl ?_
    refine cv_iald C (pc' := 6) rfl (k0 := 1) (j := j) (by decide) rfl rfl (by omega) (by decide) (D 3 (5, .iaload, 1) rfl) (v := -9) hS1 ?_
    refine cv_bipush C (pc' := 8) rfl (D 4 (6, .bipush (-9), 2) rfl) (v := -9) (by decide) ?_
    refine cv_icmp_eq C (pc' := 11) rfl (tgt := 23) (D 5 (8, .if_icmp .eq 15, 3) rfl) (by decide) (fun _ => ?_) (fun h => absurd h (by decide))
    refine cv_aload_n C (pc' := 24) rfl (D 14 (23, .aload_n 0, 1) rfl) rfl (j := 0) rfl ?_
    refine cv_get C (pc' := 27) rfl (k0 := 0) (i := 2) (ci := 7) (by decide) rfl rfl (by decide) (o := some 1) rfl iw_X7 wfX7_9 (D 15 (24, .getfield 9, 3) rfl) rfl ?_
    refine cv_iload_n C (pc' := 28) rfl (D 16 (27, .iload_n 1, 1) rfl) rfl (j := 1) rfl ?_
    refine cv_iald C (pc' := 29) rfl (k0 := 1) (j := j) (by decide) rfl rfl (by omega) (by decide) (D 17 (28, .iaload, 1) rfl) (v := -9) hS1 ?_
    refine cv_bipush C (pc' := 31) rfl (D 18 (29, .bipush (-9), 2) rfl) (v := -9) (by decide) ?_
    refine cv_icmp_ne C (pc' := 34) rfl (tgt := 36) (D 19 (31, .if_icmp .ne 5, 3) rfl) (by decide) (fun h => absurd h (by decide)) (fun _ => ?_)
    refine cv_iconst C (pc' := 35) rfl (D 20 (34, .iconst 1, 1) rfl) (v := nI 1) (by decide) ?_
    exact cv_iret C Rt rfl (D 21 (35, .ireturn, 1) rfl) ⟨congrArg (fun z => some (Value.int z)) (by rw [hq]; rfl), rfl⟩
  | some q =>
    have hS1 := hS
    rw [hq] at hS1
    have hq1 := hS1.2.2.1
    have hq2 := hS1.2.2.2
    refine cv_aload_n C (pc' := 1) rfl (D 0 (0, .aload_n 0, 1) rfl) rfl (j := 0) rfl ?_
    refine cv_get C (pc' := 4) rfl (k0 := 0) (i := 2) (ci := 7) (by decide) rfl rfl (by decide) (o := some 1) rfl iw_X7 wfX7_9 (D 1 (1, .getfield 9, 3) rfl) rfl ?_
    refine cv_iload_n C (pc' := 5) rfl (D 2 (4, .iload_n 1, 1) rfl) rfl (j := 1) rfl ?_
    refine cv_iald C (pc' := 6) rfl (k0 := 1) (j := j) (by decide) rfl rfl (by omega) (by decide) (D 3 (5, .iaload, 1) rfl) (v := nI q.1) hS1.1 ?_
    refine cv_bipush C (pc' := 8) rfl (D 4 (6, .bipush (-9), 2) rfl) (v := -9) (by decide) ?_
    refine cv_icmp_eq C (pc' := 11) rfl (tgt := 23) (D 5 (8, .if_icmp .eq 15, 3) rfl) (by decide) (fun b8 => ?_) (fun b8 => ?_)
    · skip
      exact absurd b8 (cv_m9 (by omega))
    · skip
      refine cv_aload_n C (pc' := 12) rfl (D 6 (11, .aload_n 0, 1) rfl) rfl (j := 0) rfl ?_
      refine cv_get C (pc' := 15) rfl (k0 := 0) (i := 2) (ci := 7) (by decide) rfl rfl (by decide) (o := some 1) rfl iw_X7 wfX7_9 (D 7 (12, .getfield 9, 3) rfl) rfl ?_
      refine cv_iload_n C (pc' := 16) rfl (D 8 (15, .iload_n 1, 1) rfl) rfl (j := 1) rfl ?_
      refine cv_iald C (pc' := 17) rfl (k0 := 1) (j := j) (by decide) rfl rfl (by omega) (by decide) (D 9 (16, .iaload, 1) rfl) (v := nI q.1) hS1.1 ?_
      refine cv_iload_n C (pc' := 18) rfl (D 10 (17, .iload_n 2, 1) rfl) rfl (j := 2) rfl ?_
      refine cv_icmp_eq C (pc' := 21) rfl (tgt := 23) (D 11 (18, .if_icmp .eq 5, 3) rfl) (by decide) (fun b18 => ?_) (fun b18 => ?_)
      · skip
        refine cv_aload_n C (pc' := 24) rfl (D 14 (23, .aload_n 0, 1) rfl) rfl (j := 0) rfl ?_
        refine cv_get C (pc' := 27) rfl (k0 := 0) (i := 2) (ci := 7) (by decide) rfl rfl (by decide) (o := some 1) rfl iw_X7 wfX7_9 (D 15 (24, .getfield 9, 3) rfl) rfl ?_
        refine cv_iload_n C (pc' := 28) rfl (D 16 (27, .iload_n 1, 1) rfl) rfl (j := 1) rfl ?_
        refine cv_iald C (pc' := 29) rfl (k0 := 1) (j := j) (by decide) rfl rfl (by omega) (by decide) (D 17 (28, .iaload, 1) rfl) (v := nI q.1) hS1.1 ?_
        refine cv_bipush C (pc' := 31) rfl (D 18 (29, .bipush (-9), 2) rfl) (v := -9) (by decide) ?_
        refine cv_icmp_ne C (pc' := 34) rfl (tgt := 36) (D 19 (31, .if_icmp .ne 5, 3) rfl) (by decide) (fun b31 => ?_) (fun b31 => ?_)
        · skip
          refine cv_iload C (pc' := 38) rfl (D 22 (36, .iload 4, 2) rfl) (j := 4) rfl ?_
          refine cv_if_ge C (pc' := 41) rfl (tgt := 43) (D 23 (38, .ifCond .ge 5, 3) rfl) (by decide) (fun b38 => ?_) (fun b38 => ?_)
          · skip
            refine cv_iload_n C (pc' := 44) rfl (D 26 (43, .iload_n 3, 1) rfl) rfl (j := 3) rfl ?_
            refine cv_if_lt C (pc' := 47) rfl (tgt := 70) (D 27 (44, .ifCond .lt 26, 3) rfl) (by decide) (fun b44 => ?_) (fun b44 => ?_)
            · skip
              refine cv_iconst C (pc' := 71) rfl (D 42 (70, .iconst 3, 1) rfl) (v := nI 3) (by decide) ?_
              refine cv_goto C (tgt := 75) (D 43 (71, .goto 4, 3) rfl) (by decide) ?_
              exact cv_iret C Rt rfl (D 45 (75, .ireturn, 1) rfl) ⟨congrArg (fun z => some (Value.int z)) (by rw [hq]; unfold cv_fo; dsimp only; rw [if_pos b18, if_neg (Int32.not_lt.mpr b38), if_neg (fun h9 => by have h := of_decide_eq_true h9; exact h.1 b44)]), rfl⟩
            · skip
              refine cv_iload_n C (pc' := 48) rfl (D 28 (47, .iload_n 3, 1) rfl) rfl (j := 3) rfl ?_
              refine cv_aload_n C (pc' := 49) rfl (D 29 (48, .aload_n 0, 1) rfl) rfl (j := 0) rfl ?_
              refine cv_get C (pc' := 52) rfl (k0 := 0) (i := 3) (ci := 7) (by decide) rfl rfl (by decide) (o := some 2) rfl iw_X7 wfX7_13 (D 30 (49, .getfield 13, 3) rfl) rfl ?_
              refine cv_iload_n C (pc' := 53) rfl (D 31 (52, .iload_n 1, 1) rfl) rfl (j := 1) rfl ?_
              refine cv_iald C (pc' := 54) rfl (k0 := 2) (j := j) (by decide) rfl rfl (by omega) (by decide) (D 32 (53, .iaload, 1) rfl) (v := nI q.2) hS1.2.1 ?_
              refine cv_icmp_gt C (pc' := 57) rfl (tgt := 70) (D 33 (54, .if_icmp .gt 16, 3) rfl) (by decide) (fun b54 => ?_) (fun b54 => ?_)
              · skip
                refine cv_iconst C (pc' := 71) rfl (D 42 (70, .iconst 3, 1) rfl) (v := nI 3) (by decide) ?_
                refine cv_goto C (tgt := 75) (D 43 (71, .goto 4, 3) rfl) (by decide) ?_
                exact cv_iret C Rt rfl (D 45 (75, .ireturn, 1) rfl) ⟨congrArg (fun z => some (Value.int z)) (by rw [hq]; unfold cv_fo; dsimp only; rw [if_pos b18, if_neg (Int32.not_lt.mpr b38), if_neg (fun h9 => by have h := of_decide_eq_true h9; exact Int32.not_lt.mpr h.2.2.1 b54)]), rfl⟩
              · skip
                refine cv_iload C (pc' := 59) rfl (D 34 (57, .iload 4, 2) rfl) (j := 4) rfl ?_
                refine cv_aload_n C (pc' := 60) rfl (D 35 (59, .aload_n 0, 1) rfl) rfl (j := 0) rfl ?_
                refine cv_get C (pc' := 63) rfl (k0 := 0) (i := 3) (ci := 7) (by decide) rfl rfl (by decide) (o := some 2) rfl iw_X7 wfX7_13 (D 36 (60, .getfield 13, 3) rfl) rfl ?_
                refine cv_iload_n C (pc' := 64) rfl (D 37 (63, .iload_n 1, 1) rfl) rfl (j := 1) rfl ?_
                refine cv_iald C (pc' := 65) rfl (k0 := 2) (j := j) (by decide) rfl rfl (by omega) (by decide) (D 38 (64, .iaload, 1) rfl) (v := nI q.2) hS1.2.1 ?_
                refine cv_iload_n C (pc' := 66) rfl (D 39 (65, .iload_n 3, 1) rfl) rfl (j := 3) rfl ?_
                refine cv_isub C (pc' := 67) rfl (D 40 (66, .isub, 1) rfl) ?_
                refine cv_icmp_le C (pc' := 70) rfl (tgt := 74) (D 41 (67, .if_icmp .le 7, 3) rfl) (by decide) (fun b67 => ?_) (fun b67 => ?_)
                · skip
                  refine cv_iconst C (pc' := 75) rfl (D 44 (74, .iconst 0, 1) rfl) (v := nI 0) (by decide) ?_
                  exact cv_iret C Rt rfl (D 45 (75, .ireturn, 1) rfl) ⟨congrArg (fun z => some (Value.int z)) (by rw [hq]; unfold cv_fo; dsimp only; rw [if_pos b18, if_neg (Int32.not_lt.mpr b38), if_pos (show cv_hs q.2 y z = true from decide_eq_true ⟨b44, Int32.not_lt.mpr b38, Int32.not_lt.mp b54, b67⟩)]), rfl⟩
                · skip
                  refine cv_iconst C (pc' := 71) rfl (D 42 (70, .iconst 3, 1) rfl) (v := nI 3) (by decide) ?_
                  refine cv_goto C (tgt := 75) (D 43 (71, .goto 4, 3) rfl) (by decide) ?_
                  exact cv_iret C Rt rfl (D 45 (75, .ireturn, 1) rfl) ⟨congrArg (fun z => some (Value.int z)) (by rw [hq]; unfold cv_fo; dsimp only; rw [if_pos b18, if_neg (Int32.not_lt.mpr b38), if_neg (fun h9 => by have h := of_decide_eq_true h9; exact b67 h.2.2.2)]), rfl⟩
          · skip
            refine cv_iconst C (pc' := 42) rfl (D 24 (41, .iconst 4, 1) rfl) (v := nI 4) (by decide) ?_
            exact cv_iret C Rt rfl (D 25 (42, .ireturn, 1) rfl) ⟨congrArg (fun z => some (Value.int z)) (by rw [hq]; unfold cv_fo; dsimp only; rw [if_pos b18, if_pos (Int32.not_le.mp b38)]), rfl⟩
        · skip
          exact absurd b31 (cv_m9 (by omega))
      · skip
        refine cv_iconst C (pc' := 22) rfl (D 12 (21, .iconst 2, 1) rfl) (v := nI 2) (by decide) ?_
        exact cv_iret C Rt rfl (D 13 (22, .ireturn, 1) rfl) ⟨congrArg (fun z => some (Value.int z)) (by rw [hq]; unfold cv_fo; dsimp only; rw [if_neg b18]), rfl⟩

set_option maxHeartbeats 4000000 in
set_option maxRecDepth 100000 in
theorem pX7_sheet (tr : Int32) (ft : Nat) (sl : Nat → Option (Nat × Nat)) (sc : Nat → Nat → Int32) (L : cv_L) (rc : Nat) (rd : Nat → Nat) (rn : Nat → Option Nat) (x y z : Int32) (μ : cv_St) (hR : cv_RM tr ft sl sc L rc rd rn μ) (hB : cv_LB L) (hDB : cv_DB rc rd rn) : cv_Ct yX7_sheet cX7_sheet 5 (some .int) 2 0 0 17 cv_shM [.ref 0, .int x, .int y, .int z] μ (fun v u => v = some (.int (cv_a_sheet x y z)) ∧ (if cv_ok_sheet x y z then cv_RM tr 0 (cv_ss sl (cv_nt x) (some (cv_nt y, cv_nt z))) (cv_ss sc (cv_nt x) (fun _ => 0)) L rc rd rn u else cv_RM tr (cv_f_sheet x y z) sl sc L rc rd rn u)) := by
  refine cv_enter (own := RX7) (by decide) rfl (Nat.le_of_ble_eq_true rfl) ?_
  intro X a C Rt hRm
  have D := @cv_dec _ _ dkX7_sheet
  obtain ⟨hTr, hFt, hSh, hL, hM, hD⟩ := id hR
  have hn6 := hB.1
  have hrc := hDB.1
  show cv_At X _ _ μ 0 [(0, .ref 0), (1, .int x), (2, .int y), (3, .int z)] []
  refine cv_aload_n C (pc' := 1) rfl (D 0 (0, .aload_n 0, 1) rfl) rfl (j := 0) rfl ?_
  refine cv_iconst C (pc' := 2) rfl (D 1 (1, .iconst 0, 1) rfl) (v := nI 0) (by decide) ?_
  refine cv_put C (pc' := 5) rfl (k0 := 0) (i := 0) (ci := 7) (by decide) rfl rfl (by decide) rfl iw_X7 tyX7 tyX7_ok nmX7 wfX7_62 rfl rfl rfl (D 2 (2, .putfield 62, 3) rfl) ?_
  refine cv_iload_n C (pc' := 6) rfl (D 3 (5, .iload_n 1, 1) rfl) rfl (j := 1) rfl ?_
  refine cv_callS C (pc' := 9) rfl (As := [.int x]) (rest := []) (idx := 81) (np := 1) (kX7_isSheet x (cv_u μ 0 0 (nI 0))) (by decide +kernel) rfl wmX7_81 wt_yX7_isSheet wn_X7 wc_yX7_isSheet (by decide) (by decide) (D 4 (6, .invokestatic 81, 3) rfl) (Nat.le_of_ble_eq_true rfl) rfl (fun w9 u9 h9 => ?_)
  rw [h9.1, h9.2]
  show cv_At X _ _ (cv_u μ 0 0 (nI 0)) 9 _ [.int (cv_b (cv_in x 4))]
  refine cv_if_neB C (pc' := 12) rfl (tgt := 14) (D 5 (9, .ifCond .ne 5, 3) rfl) (by decide) (fun b9 => ?_) (fun b9 => ?_)
  · skip
    refine cv_iload_n C (pc' := 15) rfl (D 8 (14, .iload_n 2, 1) rfl) rfl (j := 2) rfl ?_
    refine cv_callS C (pc' := 18) rfl (As := [.int y]) (rest := []) (idx := 85) (np := 1) (kX7_isSort y (cv_u μ 0 0 (nI 0))) (by decide +kernel) rfl wmX7_85 wt_yX7_isSort wn_X7 wc_yX7_isSort (by decide) (by decide) (D 9 (15, .invokestatic 85, 3) rfl) (Nat.le_of_ble_eq_true rfl) rfl (fun w9 u9 h9 => ?_)
    rw [h9.1, h9.2]
    show cv_At X _ _ (cv_u μ 0 0 (nI 0)) 18 _ [.int (cv_b (cv_in y 3))]
    refine cv_if_eqB C (pc' := 21) rfl (tgt := 27) (D 10 (18, .ifCond .eq 9, 3) rfl) (by decide) (fun b18 => ?_) (fun b18 => ?_)
    · skip
      refine cv_bipush C (pc' := 29) rfl (D 14 (27, .bipush (-2), 2) rfl) (v := -2) (by decide) ?_
      exact cv_iret C Rt rfl (D 15 (29, .ireturn, 1) rfl) ⟨congrArg (fun z => some (Value.int z)) (by unfold cv_a_sheet; rw [if_pos b9, if_neg (by simp [b18])]), by rw [if_neg (fun h => by rw [h.2.1] at b18; cases b18)]; unfold cv_f_sheet; rw [if_neg (by simp [b18])]; exact cv_RM_f _ hR⟩
    · skip
      refine cv_iload_n C (pc' := 22) rfl (D 11 (21, .iload_n 3, 1) rfl) rfl (j := 3) rfl ?_
      refine cv_bipush C (pc' := 24) rfl (D 12 (22, .bipush 60, 2) rfl) (v := nI 60) (by decide) ?_
      refine cv_icmp_le C (pc' := 27) rfl (tgt := 30) (D 13 (24, .if_icmp .le 6, 3) rfl) (by decide) (fun b24 => ?_) (fun b24 => ?_)
      · skip
        refine cv_iload_n C (pc' := 31) rfl (D 16 (30, .iload_n 3, 1) rfl) rfl (j := 3) rfl ?_
        refine cv_if_ge C (pc' := 34) rfl (tgt := 40) (D 17 (31, .ifCond .ge 9, 3) rfl) (by decide) (fun b31 => ?_) (fun b31 => ?_)
        · skip
          have hz61 : cv_in z 61 = true := by
            obtain ⟨q, hq, rfl⟩ := nI_of (Int32.not_lt.mpr b31)
            exact cv_in_nI (by have := (nI_leI hq (by decide)).mp b24; omega) (by decide)
          obtain ⟨j, hj, rfl⟩ := cv_in_of b9 (by omega)
          obtain ⟨w, hw, rfl⟩ := cv_in_of b18 (by omega)
          obtain ⟨q, hq, rfl⟩ := cv_in_of hz61 (by omega)
          refine cv_aload_n C (pc' := 41) rfl (D 22 (40, .aload_n 0, 1) rfl) rfl (j := 0) rfl ?_
          refine cv_get C (pc' := 44) rfl (k0 := 0) (i := 2) (ci := 7) (by decide) rfl rfl (by decide) (o := some 1) rfl iw_X7 wfX7_9 (D 23 (41, .getfield 9, 3) rfl) rfl ?_
          refine cv_iload_n C (pc' := 45) rfl (D 24 (44, .iload_n 1, 1) rfl) rfl (j := 1) rfl ?_
          refine cv_iload_n C (pc' := 46) rfl (D 25 (45, .iload_n 2, 1) rfl) rfl (j := 2) rfl ?_
          refine cv_iast C (pc' := 47) rfl (k0 := 1) (j := j) (by decide) rfl rfl (by omega) (by decide) (D 26 (46, .iastore, 1) rfl) ?_
          refine cv_aload_n C (pc' := 48) rfl (D 27 (47, .aload_n 0, 1) rfl) rfl (j := 0) rfl ?_
          refine cv_get C (pc' := 51) rfl (k0 := 0) (i := 3) (ci := 7) (by decide) rfl rfl (by decide) (o := some 2) rfl iw_X7 wfX7_13 (D 28 (48, .getfield 13, 3) rfl) rfl ?_
          refine cv_iload_n C (pc' := 52) rfl (D 29 (51, .iload_n 1, 1) rfl) rfl (j := 1) rfl ?_
          refine cv_iload_n C (pc' := 53) rfl (D 30 (52, .iload_n 3, 1) rfl) rfl (j := 3) rfl ?_
          refine cv_iast C (pc' := 54) rfl (k0 := 2) (j := j) (by decide) rfl rfl (by omega) (by decide) (D 31 (53, .iastore, 1) rfl) ?_
          refine cv_iconst C (pc' := 55) rfl (D 32 (54, .iconst 0, 1) rfl) (v := nI 0) (by decide) ?_
          refine cv_istore C (pc' := 57) rfl (D 33 (55, .istore 4, 2) rfl) (by decide) (lv' := [(4, .int (nI 0)), (0, .ref 0), (1, .int (nI j)), (2, .int (nI w)), (3, .int (nI q))]) rfl ?_
          have LP57 : ∀ (r : Nat) (i : Nat) (τ : cv_St), (i + r = 60) → (∀ k, k ≠ 3 → τ k = (cv_u (cv_u (cv_u μ 0 0 (nI 0)) 1 j (nI w)) 2 j (nI q)) k) → (∀ i, (i < 60 * j ∨ 60 * j + 60 ≤ i) → τ 3 i = μ 3 i) → (∀ k, k < i → τ 3 (60 * j + k) = 0) → cv_At X (17, cv_shM, 0, 0, a) 5 τ 57 [(4, .int (nI i)), (0, .ref 0), (1, .int (nI j))] [] := by
            intro r
            induction r with
            | zero =>
              intro i τ hr hK hO hI
              obtain rfl : i = 60 := by omega
              refine cv_iload C (pc' := 59) rfl (D 34 (57, .iload 4, 2) rfl) (j := 0) rfl ?_
              refine cv_bipush C (pc' := 61) rfl (D 35 (59, .bipush 60, 2) rfl) (v := nI 60) (by decide) ?_
              refine cv_icmp_ge C (pc' := 64) rfl (tgt := 83) (D 36 (61, .if_icmp .ge 22, 3) rfl) (by decide) (fun _ => ?_) (fun h => absurd h (by decide))
              refine cv_iconst C (pc' := 84) rfl (D 48 (83, .iconst 1, 1) rfl) (v := nI 1) (by decide) ?_
              exact cv_iret C Rt rfl (D 49 (84, .ireturn, 1) rfl) ⟨congrArg (fun z => some (Value.int z)) (by unfold cv_a_sheet; rw [if_pos b9, if_pos ⟨b18, b24⟩, if_neg (Int32.not_lt.mpr b31)]; rfl), by rw [if_pos ⟨b9, b18, hz61⟩]; simp only [cv_nt, nI_clamp (show j < 2 ^ 31 by omega), nI_clamp (show w < 2 ^ 31 by omega), nI_clamp (show q < 2 ^ 31 by omega)]; exact cv_RM_S (μ := cv_u μ 0 0 (nI 0)) (fun c hc => by rw [hK c (by omega), cv_u_c (by omega), cv_u_c (by omega)]) (fun i hi => by rw [hK 1 (by decide), cv_u_c (by decide), cv_u_i hi]) (fun i hi => by rw [hK 2 (by decide), cv_u_i hi, cv_u_c (by decide)]) (fun i hi => by rw [hO i hi, cv_u_c (by decide)]) ⟨by rw [hK 1 (by decide), cv_u_c (by decide)]; exact cv_u_s, by rw [hK 2 (by decide)]; exact cv_u_s, hw, by omega⟩ (fun _ i hi => hI i (by omega)) (cv_RM_f 0 hR)⟩
            | succ r ih57 =>
              intro i τ hr hK hO hI
              refine cv_iload C (pc' := 59) rfl (D 34 (57, .iload 4, 2) rfl) (j := 0) rfl ?_
              refine cv_bipush C (pc' := 61) rfl (D 35 (59, .bipush 60, 2) rfl) (v := nI 60) (by decide) ?_
              refine cv_icmp_geN C (pc' := 64) rfl (by omega) (by omega) (tgt := 83) (D 36 (61, .if_icmp .ge 22, 3) rfl) (by decide) (fun b61 => ?_) (fun b61 => ?_)
              · skip
                omega
              · skip
                refine cv_aload_n C (pc' := 65) rfl (D 37 (64, .aload_n 0, 1) rfl) rfl (j := 1) rfl ?_
                refine cv_get C (pc' := 68) rfl (k0 := 0) (i := 4) (ci := 7) (by decide) rfl rfl (by decide) (o := some 3) rfl iw_X7 wfX7_16 (D 38 (65, .getfield 16, 3) rfl) rfl ?_
                refine cv_bipush C (pc' := 70) rfl (D 39 (68, .bipush 60, 2) rfl) (v := nI 60) (by decide) ?_
                refine cv_iload_n C (pc' := 71) rfl (D 40 (70, .iload_n 1, 1) rfl) rfl (j := 2) rfl ?_
                refine cv_imulN C (pc' := 72) rfl (D 41 (71, .imul, 1) rfl) ?_
                refine cv_iload C (pc' := 74) rfl (D 42 (72, .iload 4, 2) rfl) (j := 0) rfl ?_
                refine cv_iaddN C (pc' := 75) rfl (D 43 (74, .iadd, 1) rfl) ?_
                refine cv_iconst C (pc' := 76) rfl (D 44 (75, .iconst 0, 1) rfl) (v := nI 0) (by decide) ?_
                refine cv_iast C (pc' := 77) rfl (k0 := 3) (j := (60 * j) + i) (by decide) rfl rfl (by omega) (by decide) (D 45 (76, .iastore, 1) rfl) ?_
                refine cv_iincN C (pc' := 80) rfl (D 46 (77, .iinc 4 1, 3) rfl) (j := 0) rfl (by decide) (lv' := [(4, .int (nI (i + 1))), (0, .ref 0), (1, .int (nI j))]) rfl ?_
                refine cv_goto C (tgt := 57) (D 47 (80, .goto (-23), 3) rfl) (by decide) ?_
                exact ih57 (i + 1) (cv_u τ 3 ((60 * j) + i) (nI 0)) (by omega) (fun k hk => by rw [cv_u_c hk]; exact hK k hk) (fun k hk => by rw [cv_u_i (by omega)]; exact hO k hk) (cv_ex (fun k hk => by rw [cv_u_i (by omega)]; exact hI k hk) cv_u_s)
          refine cv_pick [0, 1, 2] (lv' := [(4, .int (nI 0)), (0, .ref 0), (1, .int (nI j))]) rfl ?_
          exact LP57 60 0 (cv_u (cv_u (cv_u μ 0 0 (nI 0)) 1 j (nI w)) 2 j (nI q)) (by decide) (fun _ _ => rfl) (fun i _ => by rw [cv_u_c (by decide), cv_u_c (by decide), cv_u_c (by decide)]) (fun k hk => by omega)
        · skip
          refine cv_aload_n C (pc' := 35) rfl (D 18 (34, .aload_n 0, 1) rfl) rfl (j := 0) rfl ?_
          refine cv_iconst C (pc' := 36) rfl (D 19 (35, .iconst 4, 1) rfl) (v := nI 4) (by decide) ?_
          refine cv_callV C (pc' := 39) rfl (k0 := 0) (ci := 7) (As := [.int (nI 4)]) (rest := []) (idx := 92) (np := 1) (kX7_fails 4 (cv_u μ 0 0 (nI 0))) (by decide) rfl rfl rfl (by decide +kernel) rfl wmX7_92 wi_yX7_fails ws_yX7_fails wn_X7 wc_yX7_fails (by decide) (by decide) (D 20 (36, .invokevirtual 92, 3) rfl) (Nat.le_of_ble_eq_true rfl) rfl (fun w36 u36 h36 => ?_)
          rw [h36.1, h36.2, cv_uu]
          show cv_At X _ _ (cv_u μ 0 0 (nI 4)) 39 _ [.int (-10 - nI 4)]
          exact cv_iret C Rt rfl (D 21 (39, .ireturn, 1) rfl) ⟨congrArg (fun z => some (Value.int z)) (by unfold cv_a_sheet; rw [if_pos b9, if_pos ⟨b18, b24⟩, if_pos (Int32.not_le.mp b31)]; decide), by rw [if_neg (fun h => by obtain ⟨q, hq, rfl⟩ := cv_in_of h.2.2 (by decide); exact b31 (nI_pos' (by omega)))]; unfold cv_f_sheet; rw [if_pos ⟨b9, b18, b24, Int32.not_le.mp b31⟩]; exact cv_RM_f _ hR⟩
      · skip
        refine cv_bipush C (pc' := 29) rfl (D 14 (27, .bipush (-2), 2) rfl) (v := -2) (by decide) ?_
        exact cv_iret C Rt rfl (D 15 (29, .ireturn, 1) rfl) ⟨congrArg (fun z => some (Value.int z)) (by unfold cv_a_sheet; rw [if_pos b9, if_neg (fun h => b24 h.2)]), by rw [if_neg (fun h => by obtain ⟨q, hq, rfl⟩ := cv_in_of h.2.2 (by decide); exact b24 (nI_le (by omega) (by decide)))]; unfold cv_f_sheet; rw [if_neg (fun h => b24 h.2.2.1)]; exact cv_RM_f _ hR⟩
  · skip
    refine cv_iconst C (pc' := 13) rfl (D 6 (12, .iconst (-1), 1) rfl) (v := -1) (by decide) ?_
    exact cv_iret C Rt rfl (D 7 (13, .ireturn, 1) rfl) ⟨congrArg (fun z => some (Value.int z)) (by unfold cv_a_sheet; rw [if_neg (by simp [b9])]), by rw [if_neg (fun h => by rw [h.1] at b9; cases b9)]; unfold cv_f_sheet; rw [if_neg (by simp [b9])]; exact cv_RM_f _ hR⟩

set_option maxHeartbeats 4000000 in
set_option maxRecDepth 100000 in
theorem pX7_lose (tr : Int32) (ft : Nat) (sl : Nat → Option (Nat × Nat)) (sc : Nat → Nat → Int32) (L : cv_L) (rc : Nat) (rd : Nat → Nat) (rn : Nat → Option Nat) (x : Int32) (μ : cv_St) (hR : cv_RM tr ft sl sc L rc rd rn μ) (hB : cv_LB L) (hDB : cv_DB rc rd rn) : cv_Ct yX7_lose cX7_lose 3 (some .int) 2 0 0 17 cv_shM [.ref 0, .int x] μ (fun v u => v = some (.int (cv_a_lose sl x)) ∧ (if cv_in x 4 = true then cv_RM tr ft (cv_ss sl (cv_nt x) none) (cv_ss sc (cv_nt x) (fun _ => 0)) L rc rd rn u else cv_RM tr ft sl sc L rc rd rn u)) := by
  refine cv_enter (own := RX7) (by decide) rfl (Nat.le_of_ble_eq_true rfl) ?_
  intro X a C Rt hRm
  have D := @cv_dec _ _ dkX7_lose
  obtain ⟨hTr, hFt, hSh, hL, hM, hD⟩ := id hR
  have hn6 := hB.1
  have hrc := hDB.1
  show cv_At X _ _ μ 0 [(0, .ref 0), (1, .int x)] []
  refine cv_iload_n C (pc' := 1) rfl (D 0 (0, .iload_n 1, 1) rfl) rfl (j := 1) rfl ?_
  refine cv_callS C (pc' := 4) rfl (As := [.int x]) (rest := []) (idx := 81) (np := 1) (kX7_isSheet x μ) (by decide +kernel) rfl wmX7_81 wt_yX7_isSheet wn_X7 wc_yX7_isSheet (by decide) (by decide) (D 1 (1, .invokestatic 81, 3) rfl) (Nat.le_of_ble_eq_true rfl) rfl (fun w9 u9 h9 => ?_)
  rw [h9.1, h9.2]
  show cv_At X _ _ μ 4 _ [.int (cv_b (cv_in x 4))]
  refine cv_if_neB C (pc' := 7) rfl (tgt := 9) (D 2 (4, .ifCond .ne 5, 3) rfl) (by decide) (fun b4 => ?_) (fun b4 => ?_)
  · skip
    obtain ⟨j, hj, rfl⟩ := cv_in_of b4 (by omega)
    cases hq : sl j with
    | none =>
      have hS1 := (hSh j hj).1
      rw [hq] at hS1
      refine cv_aload_n C (pc' := 10) rfl (D 5 (9, .aload_n 0, 1) rfl) rfl (j := 0) rfl ?_
      refine cv_get C (pc' := 13) rfl (k0 := 0) (i := 2) (ci := 7) (by decide) rfl rfl (by decide) (o := some 1) rfl iw_X7 wfX7_9 (D 6 (10, .getfield 9, 3) rfl) rfl ?_
      refine cv_iload_n C (pc' := 14) rfl (D 7 (13, .iload_n 1, 1) rfl) rfl (j := 1) rfl ?_
      refine cv_iald C (pc' := 15) rfl (k0 := 1) (j := j) (by decide) rfl rfl (by omega) (by decide) (D 8 (14, .iaload, 1) rfl) (v := -9) hS1 ?_
      refine cv_bipush C (pc' := 17) rfl (D 9 (15, .bipush (-9), 2) rfl) (v := -9) (by decide) ?_
      refine cv_icmp_ne C (pc' := 20) rfl (tgt := 24) (D 10 (17, .if_icmp .ne 7, 3) rfl) (by decide) (fun h => absurd h (by decide)) (fun _ => ?_)
      refine cv_iconst C (pc' := 21) rfl (D 11 (20, .iconst 0, 1) rfl) (v := nI 0) (by decide) ?_
      refine cv_goto C (tgt := 25) (D 12 (21, .goto 4, 3) rfl) (by decide) ?_
      refine cv_istore_n C (pc' := 26) rfl (D 14 (25, .istore_n 2, 1) rfl) rfl (by decide) (lv' := [(2, .int (nI 0)), (0, .ref 0), (1, .int (nI j))]) rfl ?_
      refine cv_aload_n C (pc' := 27) rfl (D 15 (26, .aload_n 0, 1) rfl) rfl (j := 1) rfl ?_
      refine cv_get C (pc' := 30) rfl (k0 := 0) (i := 2) (ci := 7) (by decide) rfl rfl (by decide) (o := some 1) rfl iw_X7 wfX7_9 (D 16 (27, .getfield 9, 3) rfl) rfl ?_
      refine cv_iload_n C (pc' := 31) rfl (D 17 (30, .iload_n 1, 1) rfl) rfl (j := 2) rfl ?_
      refine cv_bipush C (pc' := 33) rfl (D 18 (31, .bipush (-9), 2) rfl) (v := -9) (by decide) ?_
      refine cv_iast C (pc' := 34) rfl (k0 := 1) (j := j) (by decide) rfl rfl (by omega) (by decide) (D 19 (33, .iastore, 1) rfl) ?_
      refine cv_iload_n C (pc' := 35) rfl (D 20 (34, .iload_n 2, 1) rfl) rfl (j := 0) rfl ?_
      exact cv_iret C Rt rfl (D 21 (35, .ireturn, 1) rfl) ⟨congrArg (fun z => some (Value.int z)) (by unfold cv_a_lose; rw [if_pos b4, cv_nt, nI_clamp (by omega), hq]; rfl), by rw [if_pos b4]; simp only [cv_nt, nI_clamp (show j < 2 ^ 31 by omega)]; exact cv_RM_S (fun c hc => cv_u_c (by omega)) (fun i hi => cv_u_i hi) (fun i hi => by rw [cv_u_c (by decide)]) (fun i hi => by rw [cv_u_c (by decide)]) cv_u_s (fun h => by cases h) hR⟩
    | some q =>
      have hS1 := (hSh j hj).1
      rw [hq] at hS1
      have hq1 := hS1.2.2.1
      have hq2 := hS1.2.2.2
      refine cv_aload_n C (pc' := 10) rfl (D 5 (9, .aload_n 0, 1) rfl) rfl (j := 0) rfl ?_
      refine cv_get C (pc' := 13) rfl (k0 := 0) (i := 2) (ci := 7) (by decide) rfl rfl (by decide) (o := some 1) rfl iw_X7 wfX7_9 (D 6 (10, .getfield 9, 3) rfl) rfl ?_
      refine cv_iload_n C (pc' := 14) rfl (D 7 (13, .iload_n 1, 1) rfl) rfl (j := 1) rfl ?_
      refine cv_iald C (pc' := 15) rfl (k0 := 1) (j := j) (by decide) rfl rfl (by omega) (by decide) (D 8 (14, .iaload, 1) rfl) (v := nI q.1) hS1.1 ?_
      refine cv_bipush C (pc' := 17) rfl (D 9 (15, .bipush (-9), 2) rfl) (v := -9) (by decide) ?_
      refine cv_icmp_ne C (pc' := 20) rfl (tgt := 24) (D 10 (17, .if_icmp .ne 7, 3) rfl) (by decide) (fun b17 => ?_) (fun b17 => ?_)
      · skip
        refine cv_iconst C (pc' := 25) rfl (D 13 (24, .iconst 1, 1) rfl) (v := nI 1) (by decide) ?_
        refine cv_istore_n C (pc' := 26) rfl (D 14 (25, .istore_n 2, 1) rfl) rfl (by decide) (lv' := [(2, .int (nI 1)), (0, .ref 0), (1, .int (nI j))]) rfl ?_
        refine cv_aload_n C (pc' := 27) rfl (D 15 (26, .aload_n 0, 1) rfl) rfl (j := 1) rfl ?_
        refine cv_get C (pc' := 30) rfl (k0 := 0) (i := 2) (ci := 7) (by decide) rfl rfl (by decide) (o := some 1) rfl iw_X7 wfX7_9 (D 16 (27, .getfield 9, 3) rfl) rfl ?_
        refine cv_iload_n C (pc' := 31) rfl (D 17 (30, .iload_n 1, 1) rfl) rfl (j := 2) rfl ?_
        refine cv_bipush C (pc' := 33) rfl (D 18 (31, .bipush (-9), 2) rfl) (v := -9) (by decide) ?_
        refine cv_iast C (pc' := 34) rfl (k0 := 1) (j := j) (by decide) rfl rfl (by omega) (by decide) (D 19 (33, .iastore, 1) rfl) ?_
        refine cv_iload_n C (pc' := 35) rfl (D 20 (34, .iload_n 2, 1) rfl) rfl (j := 0) rfl ?_
        exact cv_iret C Rt rfl (D 21 (35, .ireturn, 1) rfl) ⟨congrArg (fun z => some (Value.int z)) (by unfold cv_a_lose; rw [if_pos b4, cv_nt, nI_clamp (by omega), hq]; rfl), by rw [if_pos b4]; simp only [cv_nt, nI_clamp (show j < 2 ^ 31 by omega)]; exact cv_RM_S (fun c hc => cv_u_c (by omega)) (fun i hi => cv_u_i hi) (fun i hi => by rw [cv_u_c (by decide)]) (fun i hi => by rw [cv_u_c (by decide)]) cv_u_s (fun h => by cases h) hR⟩
      · skip
        exact absurd b17 (cv_m9 (by omega))
  · skip
    refine cv_iconst C (pc' := 8) rfl (D 3 (7, .iconst (-1), 1) rfl) (v := -1) (by decide) ?_
    exact cv_iret C Rt rfl (D 4 (8, .ireturn, 1) rfl) ⟨congrArg (fun z => some (Value.int z)) (by unfold cv_a_lose; rw [if_neg (by simp [b4])]), by rw [if_neg (by simp [b4])]; exact hR⟩

theorem cv_put_row {μ : cv_St} {j i k : Nat} {v : Int32} {f : Nat → Int32} (hk : k < 60) (h : μ 3 (60 * j + k) = f k) : cv_u μ 3 (60 * j + i) v 3 (60 * j + k) = upd f i v k := by
  unfold upd
  split
  · rename_i e
    subst e
    exact cv_u_s
  · rename_i e
    rw [cv_u_i (by omega)]
    exact h
set_option maxHeartbeats 4000000 in
set_option maxRecDepth 100000 in
theorem pX7_put (tr : Int32) (ft : Nat) (sl : Nat → Option (Nat × Nat)) (sc : Nat → Nat → Int32) (L : cv_L) (rc : Nat) (rd : Nat → Nat) (rn : Nat → Option Nat) (x y z : Int32) (μ : cv_St) (hR : cv_RM tr ft sl sc L rc rd rn μ) (hB : cv_LB L) (hDB : cv_DB rc rd rn) : cv_Ct yX7_put cX7_put 4 (some .int) 2 0 0 17 cv_shM [.ref 0, .int x, .int y, .int z] μ (fun v u => v = some (.int (cv_a_put sl x y)) ∧ cv_RM tr (cv_f_put sl x y) sl (cv_n_put sl sc x y z) L rc rd rn u) := by
  refine cv_enter (own := RX7) (by decide) rfl (Nat.le_of_ble_eq_true rfl) ?_
  intro X a C Rt hRm
  have D := @cv_dec _ _ dkX7_put
  obtain ⟨hTr, hFt, hSh, hL, hM, hD⟩ := id hR
  have hn6 := hB.1
  have hrc := hDB.1
  show cv_At X _ _ μ 0 [(0, .ref 0), (1, .int x), (2, .int y), (3, .int z)] []
  refine cv_aload_n C (pc' := 1) rfl (D 0 (0, .aload_n 0, 1) rfl) rfl (j := 0) rfl ?_
  refine cv_iconst C (pc' := 2) rfl (D 1 (1, .iconst 0, 1) rfl) (v := nI 0) (by decide) ?_
  refine cv_put C (pc' := 5) rfl (k0 := 0) (i := 0) (ci := 7) (by decide) rfl rfl (by decide) rfl iw_X7 tyX7 tyX7_ok nmX7 wfX7_62 rfl rfl rfl (D 2 (2, .putfield 62, 3) rfl) ?_
  refine cv_iload_n C (pc' := 6) rfl (D 3 (5, .iload_n 1, 1) rfl) rfl (j := 1) rfl ?_
  refine cv_callS C (pc' := 9) rfl (As := [.int x]) (rest := []) (idx := 81) (np := 1) (kX7_isSheet x (cv_u μ 0 0 (nI 0))) (by decide +kernel) rfl wmX7_81 wt_yX7_isSheet wn_X7 wc_yX7_isSheet (by decide) (by decide) (D 4 (6, .invokestatic 81, 3) rfl) (Nat.le_of_ble_eq_true rfl) rfl (fun w9 u9 h9 => ?_)
  rw [h9.1, h9.2]
  show cv_At X _ _ (cv_u μ 0 0 (nI 0)) 9 _ [.int (cv_b (cv_in x 4))]
  refine cv_if_neB C (pc' := 12) rfl (tgt := 14) (D 5 (9, .ifCond .ne 5, 3) rfl) (by decide) (fun b9 => ?_) (fun b9 => ?_)
  · skip
    obtain ⟨j, hj, rfl⟩ := cv_in_of b9 (by omega)
    cases hq : sl j with
    | none =>
      have hS1 := (hSh j hj).1
      rw [hq] at hS1
      refine cv_aload_n C (pc' := 15) rfl (D 8 (14, .aload_n 0, 1) rfl) rfl (j := 0) rfl ?_
      refine cv_get C (pc' := 18) rfl (k0 := 0) (i := 2) (ci := 7) (by decide) rfl rfl (by decide) (o := some 1) rfl iw_X7 wfX7_9 (D 9 (15, .getfield 9, 3) rfl) rfl ?_
      refine cv_iload_n C (pc' := 19) rfl (D 10 (18, .iload_n 1, 1) rfl) rfl (j := 1) rfl ?_
      refine cv_iald C (pc' := 20) rfl (k0 := 1) (j := j) (by decide) rfl rfl (by omega) (by decide) (D 11 (19, .iaload, 1) rfl) (v := -9) ((congrFun (cv_u_c (by omega)) _).trans hS1) ?_
      refine cv_bipush C (pc' := 22) rfl (D 12 (20, .bipush (-9), 2) rfl) (v := -9) (by decide) ?_
      refine cv_icmp_ne C (pc' := 25) rfl (tgt := 31) (D 13 (22, .if_icmp .ne 9, 3) rfl) (by decide) (fun h => absurd h (by decide)) (fun _ => ?_)
      refine cv_aload_n C (pc' := 26) rfl (D 14 (25, .aload_n 0, 1) rfl) rfl (j := 0) rfl ?_
      refine cv_iconst C (pc' := 27) rfl (D 15 (26, .iconst 1, 1) rfl) (v := nI 1) (by decide) ?_
      refine cv_callV C (pc' := 30) rfl (k0 := 0) (ci := 7) (As := [.int (nI 1)]) (rest := []) (idx := 92) (np := 1) (kX7_fails 1 (cv_u μ 0 0 (nI 0))) (by decide) rfl rfl rfl (by decide +kernel) rfl wmX7_92 wi_yX7_fails ws_yX7_fails wn_X7 wc_yX7_fails (by decide) (by decide) (D 16 (27, .invokevirtual 92, 3) rfl) (Nat.le_of_ble_eq_true rfl) rfl (fun w27 u27 h27 => ?_)
      rw [h27.1, h27.2, cv_uu]
      show cv_At X _ _ (cv_u μ 0 0 (nI 1)) 30 _ [.int (-10 - nI 1)]
      exact cv_iret C Rt rfl (D 17 (30, .ireturn, 1) rfl) ⟨congrArg (fun z => some (Value.int z)) (by unfold cv_a_put; rw [if_pos b9, cv_nt, nI_clamp (show j < 2 ^ 31 by omega), hq]; rfl), by unfold cv_f_put cv_n_put; rw [if_pos b9, if_pos b9, cv_nt, nI_clamp (show j < 2 ^ 31 by omega), hq]; exact cv_RM_f _ hR⟩
    | some q =>
      have hS1 := (hSh j hj).1
      rw [hq] at hS1
      have hq1 := hS1.2.2.1
      have hq2 := hS1.2.2.2
      refine cv_aload_n C (pc' := 15) rfl (D 8 (14, .aload_n 0, 1) rfl) rfl (j := 0) rfl ?_
      refine cv_get C (pc' := 18) rfl (k0 := 0) (i := 2) (ci := 7) (by decide) rfl rfl (by decide) (o := some 1) rfl iw_X7 wfX7_9 (D 9 (15, .getfield 9, 3) rfl) rfl ?_
      refine cv_iload_n C (pc' := 19) rfl (D 10 (18, .iload_n 1, 1) rfl) rfl (j := 1) rfl ?_
      refine cv_iald C (pc' := 20) rfl (k0 := 1) (j := j) (by decide) rfl rfl (by omega) (by decide) (D 11 (19, .iaload, 1) rfl) (v := nI q.1) ((congrFun (cv_u_c (by omega)) _).trans hS1.1) ?_
      refine cv_bipush C (pc' := 22) rfl (D 12 (20, .bipush (-9), 2) rfl) (v := -9) (by decide) ?_
      refine cv_icmp_ne C (pc' := 25) rfl (tgt := 31) (D 13 (22, .if_icmp .ne 9, 3) rfl) (by decide) (fun b22 => ?_) (fun b22 => ?_)
      · skip
        refine cv_iload_n C (pc' := 32) rfl (D 18 (31, .iload_n 2, 1) rfl) rfl (j := 2) rfl ?_
        refine cv_iconst C (pc' := 33) rfl (D 19 (32, .iconst 0, 1) rfl) (v := nI 0) (by decide) ?_
        refine cv_aload_n C (pc' := 34) rfl (D 20 (33, .aload_n 0, 1) rfl) rfl (j := 0) rfl ?_
        refine cv_get C (pc' := 37) rfl (k0 := 0) (i := 3) (ci := 7) (by decide) rfl rfl (by decide) (o := some 2) rfl iw_X7 wfX7_13 (D 21 (34, .getfield 13, 3) rfl) rfl ?_
        refine cv_iload_n C (pc' := 38) rfl (D 22 (37, .iload_n 1, 1) rfl) rfl (j := 1) rfl ?_
        refine cv_iald C (pc' := 39) rfl (k0 := 2) (j := j) (by decide) rfl rfl (by omega) (by decide) (D 23 (38, .iaload, 1) rfl) (v := nI q.2) ((congrFun (cv_u_c (by omega)) _).trans hS1.2.1) ?_
        refine cv_iconst C (pc' := 40) rfl (D 24 (39, .iconst 1, 1) rfl) (v := nI 1) (by decide) ?_
        refine cv_isub C (pc' := 41) rfl (D 25 (40, .isub, 1) rfl) ?_
        refine cv_callS C (pc' := 44) rfl (As := [.int y, .int (nI 0), .int ((nI q.2) - (nI 1))]) (rest := []) (idx := 67) (np := 3) (kX7_within y (nI 0) (nI q.2 - nI 1) (cv_u μ 0 0 (nI 0))) (by decide +kernel) rfl wmX7_67 wt_yX7_within wn_X7 wc_yX7_within (by decide) (by decide) (D 26 (41, .invokestatic 67, 3) rfl) (Nat.le_of_ble_eq_true rfl) rfl (fun w9 u9 h9 => ?_)
        rw [h9.1, h9.2]
        show cv_At X _ _ (cv_u μ 0 0 (nI 0)) 44 _ [.int (cv_b (decide (nI 0 ≤ y ∧ y ≤ nI q.2 - nI 1)))]
        rw [cv_in_1 hq2]
        refine cv_if_neB C (pc' := 47) rfl (tgt := 53) (D 27 (44, .ifCond .ne 9, 3) rfl) (by decide) (fun b44 => ?_) (fun b44 => ?_)
        · skip
          obtain ⟨i, t1, hyi, ht1, hit⟩ := cv_hs_of hq2 b44
          have ht2 := (nI_eq (by decide) (by omega)).mp ht1
          subst hyi
          have hSc := (hSh j hj).2 (by rw [hq]; rfl)
          have hfp : cv_fp (some q) (nI i) = 0 := if_pos b44
          refine cv_aload_n C (pc' := 54) rfl (D 32 (53, .aload_n 0, 1) rfl) rfl (j := 0) rfl ?_
          refine cv_get C (pc' := 57) rfl (k0 := 0) (i := 4) (ci := 7) (by decide) rfl rfl (by decide) (o := some 3) rfl iw_X7 wfX7_16 (D 33 (54, .getfield 16, 3) rfl) rfl ?_
          refine cv_bipush C (pc' := 59) rfl (D 34 (57, .bipush 60, 2) rfl) (v := nI 60) (by decide) ?_
          refine cv_iload_n C (pc' := 60) rfl (D 35 (59, .iload_n 1, 1) rfl) rfl (j := 1) rfl ?_
          refine cv_imulN C (pc' := 61) rfl (D 36 (60, .imul, 1) rfl) ?_
          refine cv_iload_n C (pc' := 62) rfl (D 37 (61, .iload_n 2, 1) rfl) rfl (j := 2) rfl ?_
          refine cv_iaddN C (pc' := 63) rfl (D 38 (62, .iadd, 1) rfl) ?_
          refine cv_aload_n C (pc' := 64) rfl (D 39 (63, .aload_n 0, 1) rfl) rfl (j := 0) rfl ?_
          refine cv_get C (pc' := 67) rfl (k0 := 0) (i := 2) (ci := 7) (by decide) rfl rfl (by decide) (o := some 1) rfl iw_X7 wfX7_9 (D 40 (64, .getfield 9, 3) rfl) rfl ?_
          refine cv_iload_n C (pc' := 68) rfl (D 41 (67, .iload_n 1, 1) rfl) rfl (j := 1) rfl ?_
          refine cv_iald C (pc' := 69) rfl (k0 := 1) (j := j) (by decide) rfl rfl (by omega) (by decide) (D 42 (68, .iaload, 1) rfl) (v := nI q.1) ((congrFun (cv_u_c (by omega)) _).trans hS1.1) ?_
          refine cv_if_neN C (pc' := 72) rfl (by omega) (tgt := 77) (D 43 (69, .ifCond .ne 8, 3) rfl) (by decide) (fun b69 => ?_) (fun b69 => ?_)
          · skip
            refine cv_aload_n C (pc' := 78) rfl (D 47 (77, .aload_n 0, 1) rfl) rfl (j := 0) rfl ?_
            refine cv_get C (pc' := 81) rfl (k0 := 0) (i := 2) (ci := 7) (by decide) rfl rfl (by decide) (o := some 1) rfl iw_X7 wfX7_9 (D 48 (78, .getfield 9, 3) rfl) rfl ?_
            refine cv_iload_n C (pc' := 82) rfl (D 49 (81, .iload_n 1, 1) rfl) rfl (j := 1) rfl ?_
            refine cv_iald C (pc' := 83) rfl (k0 := 1) (j := j) (by decide) rfl rfl (by omega) (by decide) (D 50 (82, .iaload, 1) rfl) (v := nI q.1) ((congrFun (cv_u_c (by omega)) _).trans hS1.1) ?_
            refine cv_iconst C (pc' := 84) rfl (D 51 (83, .iconst 1, 1) rfl) (v := nI 1) (by decide) ?_
            refine cv_icmp_neN C (pc' := 87) rfl (by omega) (by omega) (tgt := 92) (D 52 (84, .if_icmp .ne 8, 3) rfl) (by decide) (fun b84 => ?_) (fun b84 => ?_)
            · skip
              refine cv_iload_n C (pc' := 93) rfl (D 56 (92, .iload_n 3, 1) rfl) rfl (j := 3) rfl ?_
              refine cv_iast C (pc' := 94) rfl (k0 := 3) (j := (60 * j) + i) (by decide) rfl rfl (by omega) (by decide) (D 57 (93, .iastore, 1) rfl) ?_
              refine cv_iconst C (pc' := 95) rfl (D 58 (94, .iconst 1, 1) rfl) (v := nI 1) (by decide) ?_
              exact cv_iret C Rt rfl (D 59 (95, .ireturn, 1) rfl) ⟨congrArg (fun z => some (Value.int z)) (by unfold cv_a_put; rw [if_pos b9, cv_nt, nI_clamp (show j < 2 ^ 31 by omega), hq]; rw [hfp]; rfl), by unfold cv_f_put cv_n_put; rw [if_pos b9, if_pos b9, cv_nt, nI_clamp (show j < 2 ^ 31 by omega), hq]; rw [hfp]; dsimp only; rw [if_pos b44, cv_nt, nI_clamp (show i < 2 ^ 31 by omega), show cv_ct q.1 z = z from by unfold cv_ct; rw [if_neg (by omega), if_neg b84]]; exact cv_RM_same (fun k hk => (cv_ss_id hq k).symm) (cv_RM_S (μ := cv_u μ 0 0 (nI 0)) (fun c hc => by rw [cv_u_c (by omega)]) (fun _ _ => by rw [cv_u_c (by decide)]) (fun _ _ => by rw [cv_u_c (by decide)]) (fun k hk => by rw [cv_u_i (by omega)]) (by rw [cv_u_c (by decide), cv_u_c (by decide), cv_u_c (by decide), cv_u_c (by decide)]; exact hS1) (fun _ k hk => cv_put_row hk (by rw [cv_u_c (by decide)]; exact hSc k hk)) (cv_RM_f 0 hR))⟩
            · skip
              refine cv_iload_n C (pc' := 88) rfl (D 53 (87, .iload_n 3, 1) rfl) rfl (j := 3) rfl ?_
              refine cv_i2s C (pc' := 89) rfl (D 54 (88, .i2s, 1) rfl) rfl ?_
              refine cv_goto C (tgt := 93) (D 55 (89, .goto 4, 3) rfl) (by decide) ?_
              refine cv_iast C (pc' := 94) rfl (k0 := 3) (j := (60 * j) + i) (by decide) rfl rfl (by omega) (by decide) (D 57 (93, .iastore, 1) rfl) ?_
              refine cv_iconst C (pc' := 95) rfl (D 58 (94, .iconst 1, 1) rfl) (v := nI 1) (by decide) ?_
              exact cv_iret C Rt rfl (D 59 (95, .ireturn, 1) rfl) ⟨congrArg (fun z => some (Value.int z)) (by unfold cv_a_put; rw [if_pos b9, cv_nt, nI_clamp (show j < 2 ^ 31 by omega), hq]; rw [hfp]; rfl), by unfold cv_f_put cv_n_put; rw [if_pos b9, if_pos b9, cv_nt, nI_clamp (show j < 2 ^ 31 by omega), hq]; rw [hfp]; dsimp only; rw [if_pos b44, cv_nt, nI_clamp (show i < 2 ^ 31 by omega), show cv_ct q.1 z = z.toInt16.toInt32 from by unfold cv_ct; rw [if_neg (by omega), if_pos b84]]; exact cv_RM_same (fun k hk => (cv_ss_id hq k).symm) (cv_RM_S (μ := cv_u μ 0 0 (nI 0)) (fun c hc => by rw [cv_u_c (by omega)]) (fun _ _ => by rw [cv_u_c (by decide)]) (fun _ _ => by rw [cv_u_c (by decide)]) (fun k hk => by rw [cv_u_i (by omega)]) (by rw [cv_u_c (by decide), cv_u_c (by decide), cv_u_c (by decide), cv_u_c (by decide)]; exact hS1) (fun _ k hk => cv_put_row hk (by rw [cv_u_c (by decide)]; exact hSc k hk)) (cv_RM_f 0 hR))⟩
          · skip
            refine cv_iload_n C (pc' := 73) rfl (D 44 (72, .iload_n 3, 1) rfl) rfl (j := 3) rfl ?_
            refine cv_i2b C (pc' := 74) rfl (D 45 (73, .i2b, 1) rfl) rfl ?_
            refine cv_goto C (tgt := 93) (D 46 (74, .goto 19, 3) rfl) (by decide) ?_
            refine cv_iast C (pc' := 94) rfl (k0 := 3) (j := (60 * j) + i) (by decide) rfl rfl (by omega) (by decide) (D 57 (93, .iastore, 1) rfl) ?_
            refine cv_iconst C (pc' := 95) rfl (D 58 (94, .iconst 1, 1) rfl) (v := nI 1) (by decide) ?_
            exact cv_iret C Rt rfl (D 59 (95, .ireturn, 1) rfl) ⟨congrArg (fun z => some (Value.int z)) (by unfold cv_a_put; rw [if_pos b9, cv_nt, nI_clamp (show j < 2 ^ 31 by omega), hq]; rw [hfp]; rfl), by unfold cv_f_put cv_n_put; rw [if_pos b9, if_pos b9, cv_nt, nI_clamp (show j < 2 ^ 31 by omega), hq]; rw [hfp]; dsimp only; rw [if_pos b44, cv_nt, nI_clamp (show i < 2 ^ 31 by omega), show cv_ct q.1 z = z.toInt8.toInt32 from by unfold cv_ct; rw [if_pos b69]]; exact cv_RM_same (fun k hk => (cv_ss_id hq k).symm) (cv_RM_S (μ := cv_u μ 0 0 (nI 0)) (fun c hc => by rw [cv_u_c (by omega)]) (fun _ _ => by rw [cv_u_c (by decide)]) (fun _ _ => by rw [cv_u_c (by decide)]) (fun k hk => by rw [cv_u_i (by omega)]) (by rw [cv_u_c (by decide), cv_u_c (by decide), cv_u_c (by decide), cv_u_c (by decide)]; exact hS1) (fun _ k hk => cv_put_row hk (by rw [cv_u_c (by decide)]; exact hSc k hk)) (cv_RM_f 0 hR))⟩
        · skip
          have hfp : cv_fp (some q) y = 3 := if_neg (by simp [b44])
          refine cv_aload_n C (pc' := 48) rfl (D 28 (47, .aload_n 0, 1) rfl) rfl (j := 0) rfl ?_
          refine cv_iconst C (pc' := 49) rfl (D 29 (48, .iconst 3, 1) rfl) (v := nI 3) (by decide) ?_
          refine cv_callV C (pc' := 52) rfl (k0 := 0) (ci := 7) (As := [.int (nI 3)]) (rest := []) (idx := 92) (np := 1) (kX7_fails 3 (cv_u μ 0 0 (nI 0))) (by decide) rfl rfl rfl (by decide +kernel) rfl wmX7_92 wi_yX7_fails ws_yX7_fails wn_X7 wc_yX7_fails (by decide) (by decide) (D 30 (49, .invokevirtual 92, 3) rfl) (Nat.le_of_ble_eq_true rfl) rfl (fun w49 u49 h49 => ?_)
          rw [h49.1, h49.2, cv_uu]
          show cv_At X _ _ (cv_u μ 0 0 (nI 3)) 52 _ [.int (-10 - nI 3)]
          exact cv_iret C Rt rfl (D 31 (52, .ireturn, 1) rfl) ⟨congrArg (fun z => some (Value.int z)) (by unfold cv_a_put; rw [if_pos b9, cv_nt, nI_clamp (show j < 2 ^ 31 by omega), hq]; rw [hfp]; rfl), by unfold cv_f_put cv_n_put; rw [if_pos b9, if_pos b9, cv_nt, nI_clamp (show j < 2 ^ 31 by omega), hq]; rw [hfp]; dsimp only; rw [if_neg (show ¬ cv_hs q.2 y (nI 1) = true by simp [b44])]; exact cv_RM_f _ hR⟩
      · skip
        exact absurd b22 (cv_m9 (by omega))
  · skip
    refine cv_iconst C (pc' := 13) rfl (D 6 (12, .iconst (-1), 1) rfl) (v := -1) (by decide) ?_
    exact cv_iret C Rt rfl (D 7 (13, .ireturn, 1) rfl) ⟨congrArg (fun z => some (Value.int z)) (by unfold cv_a_put; rw [if_neg (by simp [b9])]), by unfold cv_f_put cv_n_put; rw [if_neg (by simp [b9]), if_neg (by simp [b9])]; exact cv_RM_f _ hR⟩

