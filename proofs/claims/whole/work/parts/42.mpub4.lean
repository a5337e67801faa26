/-- but for the wheel's scratch and the slot j of the cell c, as it was -/
def cv_f1 (c j : Nat) (μ u : cv_St) : Prop := (∀ k, k ≠ 0 → k ≠ 14 → k ≠ c → u k = μ k) ∧ (∀ i, i ≠ 20 → i ≠ 21 → u 0 i = μ 0 i) ∧ ∀ i, i ≠ j → u c i = μ c i
theorem cv_f1_r (c j : Nat) (μ : cv_St) : cv_f1 c j μ μ := ⟨fun _ _ _ _ => rfl, fun _ _ _ => rfl, fun _ _ => rfl⟩
theorem cv_f1_u {c j : Nat} (hc : c ≠ 0) {μ τ : cv_St} (h : cv_f1 c j μ τ) (y : Int32) : cv_fw (cv_u μ c j y) (cv_u τ c j y) := by
  refine ⟨fun k a b => ?_, fun i a b => by rw [cv_u_c (Ne.symm hc), cv_u_c (Ne.symm hc)]; exact h.2.1 i a b⟩
  by_cases e : k = c
  · subst e
    funext i
    by_cases e2 : i = j
    · subst e2; rw [cv_u_s, cv_u_s]
    · rw [cv_u_i e2, cv_u_i e2]; exact h.2.2 i e2
  · rw [cv_u_c e, cv_u_c e]; exact h.1 k a b e
theorem cv_f1_s {c j : Nat} (hc : c ≠ 0) (h14 : c ≠ 14) {μ τ u : cv_St} (h : cv_f1 c j μ τ) {y : Int32} (h2 : cv_fw (cv_u τ c j y) u) : cv_f1 c j μ u :=
  ⟨fun k a b e => by rw [h2.1 k a b, cv_u_c e]; exact h.1 k a b e, fun i a b => by rw [h2.2 i a b, cv_u_c (Ne.symm hc)]; exact h.2.1 i a b, fun i e => by rw [h2.1 c hc h14, cv_u_i e]; exact h.2.2 i e⟩
theorem cv_f1_end {c j : Nat} (hc : c ≠ 0) {μ τ : cv_St} (h : cv_f1 c j μ τ) {y : Int32} (hy : μ c j = y) : cv_fw μ (cv_u τ c j y) := by
  have h1 := cv_f1_u hc h y
  have h2 : cv_u μ c j y = μ := by
    funext k
    by_cases e : k = c
    · subst e
      funext i
      by_cases e2 : i = j
      · subst e2; rw [cv_u_s]; exact hy.symm
      · rw [cv_u_i e2]
    · rw [cv_u_c e]
  rw [h2] at h1
  exact h1
theorem cv_DM_1 {rc : Nat} {rd : Nat → Nat} {rn : Nat → Option Nat} {μ : cv_St} {c j : Nat} {y : Int32} (hc : c ≠ 0 ∧ c < 15) (hD : cv_DM rc rd rn μ) : cv_DM rc rd rn (cv_u μ c j y) :=
  ⟨by rw [cv_u_c (by omega)]; exact hD.1, fun k hk => by rw [cv_u_c (by omega), cv_u_c (by omega)]; exact hD.2 k hk⟩
theorem cv_ho_9 {L : cv_L} (hB : cv_LB L) (rc : Nat) (rd : Nat → Nat) (rn : Nat → Option Nat) : cv_ho (fun d => cv_so L (-9) d (L 6 1) (L 6 2)) rc rd rn = cv_hold L rc rd rn := by
  unfold cv_hold
  exact congrArg (fun f => cv_ho f rc rd rn) (funext (fun d => cv_so_9 hB d _ _))
theorem cv_lst_0 {P : Nat → Bool} : ∀ n, (cv_cnt P n = 0 ∧ cv_lst P n = none) ∨ (0 < cv_cnt P n ∧ ∃ z, cv_lst P n = some z)
  | 0 => Or.inl ⟨rfl, rfl⟩
  | n + 1 => by
    rcases cv_lst_0 (P := P) n with h | h
    · rw [cv_lst_s, h.2]
      cases e : P n with
      | true => exact Or.inr ⟨by rw [cv_cnt_t e]; omega, n, by simp⟩
      | false => exact Or.inl ⟨by rw [cv_cnt_f e]; exact h.1, by simp⟩
    · obtain ⟨h1, z, hz⟩ := h
      refine Or.inr ⟨?_, z, by rw [cv_lst_s, hz]⟩
      simp only [cv_cnt]
      omega
set_option maxHeartbeats 4000000 in
set_option maxRecDepth 100000 in
theorem pX7_snows (tr : Int32) (ft : Nat) (sl : Nat → Option (Nat × Nat)) (sc : Nat → Nat → Int32) (L : cv_L) (rc : Nat) (rd : Nat → Nat) (rn : Nat → Option Nat) (x : Int32) (μ : cv_St) (hR : cv_RM tr ft sl sc L rc rd rn μ) (hB : cv_LB L) (hDB : cv_DB rc rd rn) : cv_Ct yX7_snows cX7_snows 5 (some .int) 6 0 0 17 cv_shM [.ref 0, .int x] μ (fun v u => v = some (.int (cv_a_snows L rc rd rn x)) ∧ cv_RM tr ft sl sc L rc rd rn u) := by
  refine cv_enter (own := RX7) (by decide) rfl (Nat.le_of_ble_eq_true rfl) ?_
  intro X a C Rt hRm
  have D := @cv_dec _ _ dkX7_snows
  obtain ⟨hTr, hFt, hSh, hL, hM, hD⟩ := id hR
  have hn6 := hB.1
  have hrc := hDB.1
  show cv_At X _ _ μ 0 [(0, .ref 0), (1, .int x)] []
  refine cv_iload_n C (pc' := 1) rfl (D 0 (0, .iload_n 1, 1) rfl) rfl (j := 1) rfl ?_
  refine cv_callS C (pc' := 4) rfl (As := [.int x]) (rest := []) (idx := 124) (np := 1) (kX7_isDay x μ) (by decide +kernel) rfl wmX7_124 wt_yX7_isDay wn_X7 wc_yX7_isDay (by decide) (by decide) (D 1 (1, .invokestatic 124, 3) rfl) (Nat.le_of_ble_eq_true rfl) rfl (fun w9 u9 h9 => ?_)
  rw [h9.1, h9.2]
  show cv_At X _ _ μ 4 _ [.int (cv_b (cv_in x 8))]
  refine cv_if_neB C (pc' := 7) rfl (tgt := 10) (D 2 (4, .ifCond .ne 6, 3) rfl) (by decide) (fun b4 => ?_) (fun b4 => ?_)
  · skip
    obtain ⟨j, hj, rfl⟩ := cv_in_of b4 (by omega)
    refine cv_aload_n C (pc' := 11) rfl (D 5 (10, .aload_n 0, 1) rfl) rfl (j := 0) rfl ?_
    refine cv_get C (pc' := 14) rfl (k0 := 0) (i := 5) (ci := 7) (by decide) rfl rfl (by decide) (o := none) rfl iw_X7 wfX7_71 (D 6 (11, .getfield 71, 3) rfl) (v := .int (nI (L 7 0))) (congrArg Value.int hL.1) ?_
    refine cv_if_neN C (pc' := 17) rfl (by omega) (tgt := 20) (D 7 (14, .ifCond .ne 6, 3) rfl) (by decide) (fun b14 => ?_) (fun b14 => ?_)
    · skip
      refine cv_aload_n C (pc' := 21) rfl (D 10 (20, .aload_n 0, 1) rfl) rfl (j := 0) rfl ?_
      refine cv_get C (pc' := 24) rfl (k0 := 0) (i := 6) (ci := 7) (by decide) rfl rfl (by decide) (o := some 4) rfl iw_X7 wfX7_19 (D 11 (21, .getfield 19, 3) rfl) rfl ?_
      refine cv_iload_n C (pc' := 25) rfl (D 12 (24, .iload_n 1, 1) rfl) rfl (j := 1) rfl ?_
      refine cv_iald C (pc' := 26) rfl (k0 := 4) (j := j) (by decide) rfl rfl (by omega) (by decide) (D 13 (25, .iaload, 1) rfl) (v := nI (L 5 j)) (hL.2.1 _ (by omega)) ?_
      refine cv_istore_n C (pc' := 27) rfl (D 14 (26, .istore_n 2, 1) rfl) rfl (by decide) (lv' := [(2, .int (nI (L 5 j))), (0, .ref 0), (1, .int (nI j))]) rfl ?_
      refine cv_iconst C (pc' := 28) rfl (D 15 (27, .iconst 0, 1) rfl) (v := nI 0) (by decide) ?_
      refine cv_istore_n C (pc' := 29) rfl (D 16 (28, .istore_n 3, 1) rfl) rfl (by decide) (lv' := [(3, .int (nI 0)), (2, .int (nI (L 5 j))), (0, .ref 0), (1, .int (nI j))]) rfl ?_
      refine cv_iconst C (pc' := 30) rfl (D 17 (29, .iconst 0, 1) rfl) (v := nI 0) (by decide) ?_
      refine cv_istore C (pc' := 32) rfl (D 18 (30, .istore 4, 2) rfl) (by decide) (lv' := [(4, .int (nI 0)), (3, .int (nI 0)), (2, .int (nI (L 5 j))), (0, .ref 0), (1, .int (nI j))]) rfl ?_
      refine cv_pick [0, 1, 3, 4, 2] (lv' := [(4, .int (nI 0)), (3, .int (nI (cv_sb (fun v => cv_hold (cv_lu L 5 j v) rc rd rn) 0))), (0, .ref 0), (1, .int (nI j)), (2, .int (nI (L 5 j)))]) rfl ?_
      have LP32 : ∀ (r : Nat) (v : Nat) (τ : cv_St), (v + r = 10) → (cv_f1 4 j μ τ) → cv_At X (17, cv_shM, 0, 0, a) 5 τ 32 [(4, .int (nI v)), (3, .int (nI (cv_sb (fun v => cv_hold (cv_lu L 5 j v) rc rd rn) v))), (0, .ref 0), (1, .int (nI j)), (2, .int (nI (L 5 j)))] [] := by
        intro r
        induction r with
        | zero =>
          intro v τ hr hIτ
          obtain rfl : v = 10 := by omega
          refine cv_iload C (pc' := 34) rfl (D 19 (32, .iload 4, 2) rfl) (j := 0) rfl ?_
          refine cv_bipush C (pc' := 36) rfl (D 20 (34, .bipush 9, 2) rfl) (v := nI 9) (by decide) ?_
          refine cv_icmp_gt C (pc' := 39) rfl (tgt := 71) (D 21 (36, .if_icmp .gt 35, 3) rfl) (by decide) (fun _ => ?_) (fun h => absurd h (by decide))
          refine cv_aload_n C (pc' := 72) rfl (D 40 (71, .aload_n 0, 1) rfl) rfl (j := 2) rfl ?_
          refine cv_get C (pc' := 75) rfl (k0 := 0) (i := 6) (ci := 7) (by decide) rfl rfl (by decide) (o := some 4) rfl iw_X7 wfX7_19 (D 41 (72, .getfield 19, 3) rfl) rfl ?_
          refine cv_iload_n C (pc' := 76) rfl (D 42 (75, .iload_n 1, 1) rfl) rfl (j := 3) rfl ?_
          refine cv_iload_n C (pc' := 77) rfl (D 43 (76, .iload_n 2, 1) rfl) rfl (j := 4) rfl ?_
          refine cv_iast C (pc' := 78) rfl (k0 := 4) (j := j) (by decide) rfl rfl (by omega) (by decide) (D 44 (77, .iastore, 1) rfl) ?_
          refine cv_iload_n C (pc' := 79) rfl (D 45 (78, .iload_n 3, 1) rfl) rfl (j := 1) rfl ?_
          exact cv_iret C Rt rfl (D 46 (79, .ireturn, 1) rfl) ⟨congrArg (fun z => some (Value.int z)) (by unfold cv_a_snows cv_day; rw [if_pos b4, if_pos (by omega), cv_nt, nI_clamp (by omega)]), cv_RM_k (cv_fw_m (cv_f1_end (by decide) hIτ (hL.2.1 j (by omega)))) hR⟩
        | succ r ih32 =>
          intro v τ hr hIτ
          refine cv_iload C (pc' := 34) rfl (D 19 (32, .iload 4, 2) rfl) (j := 0) rfl ?_
          refine cv_bipush C (pc' := 36) rfl (D 20 (34, .bipush 9, 2) rfl) (v := nI 9) (by decide) ?_
          refine cv_icmp_gtN C (pc' := 39) rfl (by omega) (by omega) (tgt := 71) (D 21 (36, .if_icmp .gt 35, 3) rfl) (by decide) (fun b36 => ?_) (fun b36 => ?_)
          · skip
            omega
          · skip
            refine cv_aload_n C (pc' := 40) rfl (D 22 (39, .aload_n 0, 1) rfl) rfl (j := 2) rfl ?_
            refine cv_get C (pc' := 43) rfl (k0 := 0) (i := 6) (ci := 7) (by decide) rfl rfl (by decide) (o := some 4) rfl iw_X7 wfX7_19 (D 23 (40, .getfield 19, 3) rfl) rfl ?_
            refine cv_iload_n C (pc' := 44) rfl (D 24 (43, .iload_n 1, 1) rfl) rfl (j := 3) rfl ?_
            refine cv_iload C (pc' := 46) rfl (D 25 (44, .iload 4, 2) rfl) (j := 0) rfl ?_
            refine cv_iast C (pc' := 47) rfl (k0 := 4) (j := j) (by decide) rfl rfl (by omega) (by decide) (D 26 (46, .iastore, 1) rfl) ?_
            refine cv_iload_n C (pc' := 48) rfl (D 27 (47, .iload_n 3, 1) rfl) rfl (j := 1) rfl ?_
            refine cv_aload_n C (pc' := 49) rfl (D 28 (48, .aload_n 0, 1) rfl) rfl (j := 2) rfl ?_
            have hLs := cv_LM_w (cv_f1_u (by omega) hIτ (nI v)) (cv_LM_snow hL j v)
            have hBs : cv_LB (cv_lu L 5 j v) := cv_LB_snow hB (by omega)
            have hDs := cv_DM_k (cv_fw_m (cv_f1_u (c := 4) (j := j) (by omega) hIτ (nI v))) (cv_DM_1 (by omega) hD)
            have hMs : (cv_u τ 4 j (nI v)) 0 13 = -9 := by rw [cv_u_c (by omega), hIτ.2.1 13 (by decide) (by decide)]; exact hM
            refine cv_callV C (pc' := 52) rfl (k0 := 0) (ci := 7) (As := []) (rest := [.int (nI (cv_sb (fun v => cv_hold (cv_lu L 5 j v) rc rd rn) v))]) (idx := 188) (np := 0) (kX7_areSo (cv_lu L 5 j v) (-9) rc rd rn (cv_u τ 4 j (nI v)) hLs hBs hMs hDs hDB) (by decide) rfl rfl rfl (by decide +kernel) rfl wmX7_188 wi_yX7_areSo ws_yX7_areSo wn_X7 wc_yX7_areSo (by decide) (by decide) (D 29 (49, .invokevirtual 188, 3) rfl) (Nat.le_of_ble_eq_true rfl) rfl (fun w49 u49 h49 => ?_)
            obtain ⟨e49, f49⟩ := h49
            rw [e49, cv_ho_9 hBs]
            have hIu49 : cv_f1 4 j μ u49 := cv_f1_s (by omega) (by omega) hIτ f49
            show cv_At X _ _ u49 52 _ [.int (cv_b (cv_hold (cv_lu L 5 j v) rc rd rn)), .int (nI (cv_sb (fun v => cv_hold (cv_lu L 5 j v) rc rd rn) v))]
            refine cv_if_eqB C (pc' := 55) rfl (tgt := 62) (D 30 (52, .ifCond .eq 10, 3) rfl) (by decide) (fun b52 => ?_) (fun b52 => ?_)
            · skip
              refine cv_iconst C (pc' := 63) rfl (D 35 (62, .iconst 0, 1) rfl) (v := nI 0) (by decide) ?_
              refine cv_iorN C (pc' := 64) rfl (D 36 (63, .ior, 1) rfl) ?_
              refine cv_istore_n C (pc' := 65) rfl (D 37 (64, .istore_n 3, 1) rfl) rfl (by decide) (lv' := [(3, .int (nI ((cv_sb (fun v => cv_hold (cv_lu L 5 j v) rc rd rn) v) ||| 0))), (4, .int (nI v)), (0, .ref 0), (1, .int (nI j)), (2, .int (nI (L 5 j)))]) rfl ?_
              refine cv_iincN C (pc' := 68) rfl (D 38 (65, .iinc 4 1, 3) rfl) (j := 1) rfl (by decide) (lv' := [(4, .int (nI (v + 1))), (3, .int (nI ((cv_sb (fun v => cv_hold (cv_lu L 5 j v) rc rd rn) v) ||| 0))), (0, .ref 0), (1, .int (nI j)), (2, .int (nI (L 5 j)))]) rfl ?_
              refine cv_goto C (tgt := 32) (D 39 (68, .goto (-36), 3) rfl) (by decide) ?_
              have hw9 : (cv_sb (fun v => cv_hold (cv_lu L 5 j v) rc rd rn) v) ||| 0 = cv_sb (fun v => cv_hold (cv_lu L 5 j v) rc rd rn) (v + 1) := by simp [cv_sb, b52]
              rw [hw9]
              exact ih32 (v + 1) u49 (by omega) hIu49
            · skip
              refine cv_iconst C (pc' := 56) rfl (D 31 (55, .iconst 1, 1) rfl) (v := nI 1) (by decide) ?_
              refine cv_iload C (pc' := 58) rfl (D 32 (56, .iload 4, 2) rfl) (j := 0) rfl ?_
              refine cv_ishl1 C (pc' := 59) rfl (by omega) (D 33 (58, .ishl, 1) rfl) ?_
              refine cv_goto C (tgt := 63) (D 34 (59, .goto 4, 3) rfl) (by decide) ?_
              refine cv_iorN C (pc' := 64) rfl (D 36 (63, .ior, 1) rfl) ?_
              refine cv_istore_n C (pc' := 65) rfl (D 37 (64, .istore_n 3, 1) rfl) rfl (by decide) (lv' := [(3, .int (nI ((cv_sb (fun v => cv_hold (cv_lu L 5 j v) rc rd rn) v) ||| (2 ^ v)))), (4, .int (nI v)), (0, .ref 0), (1, .int (nI j)), (2, .int (nI (L 5 j)))]) rfl ?_
              refine cv_iincN C (pc' := 68) rfl (D 38 (65, .iinc 4 1, 3) rfl) (j := 1) rfl (by decide) (lv' := [(4, .int (nI (v + 1))), (3, .int (nI ((cv_sb (fun v => cv_hold (cv_lu L 5 j v) rc rd rn) v) ||| (2 ^ v)))), (0, .ref 0), (1, .int (nI j)), (2, .int (nI (L 5 j)))]) rfl ?_
              refine cv_goto C (tgt := 32) (D 39 (68, .goto (-36), 3) rfl) (by decide) ?_
              have hw9 : (cv_sb (fun v => cv_hold (cv_lu L 5 j v) rc rd rn) v) ||| (2 ^ v) = cv_sb (fun v => cv_hold (cv_lu L 5 j v) rc rd rn) (v + 1) := by simp [cv_sb, b52]
              rw [hw9]
              exact ih32 (v + 1) u49 (by omega) hIu49
      exact LP32 10 0 μ (by decide) (cv_f1_r _ _ μ)
    · skip
      refine cv_bipush C (pc' := 19) rfl (D 8 (17, .bipush (-3), 2) rfl) (v := -3) (by decide) ?_
      exact cv_iret C Rt rfl (D 9 (19, .ireturn, 1) rfl) ⟨congrArg (fun z => some (Value.int z)) (by unfold cv_a_snows cv_day; rw [if_pos b4, if_neg (by omega)]), hR⟩
  · skip
    refine cv_bipush C (pc' := 9) rfl (D 3 (7, .bipush (-2), 2) rfl) (v := -2) (by decide) ?_
    exact cv_iret C Rt rfl (D 4 (9, .ireturn, 1) rfl) ⟨congrArg (fun z => some (Value.int z)) (by unfold cv_a_snows cv_day; rw [if_neg (by simp [b4])]), hR⟩

set_option maxHeartbeats 4000000 in
set_option maxRecDepth 100000 in
theorem pX7_heights (tr : Int32) (ft : Nat) (sl : Nat → Option (Nat × Nat)) (sc : Nat → Nat → Int32) (L : cv_L) (rc : Nat) (rd : Nat → Nat) (rn : Nat → Option Nat) (x : Int32) (μ : cv_St) (hR : cv_RM tr ft sl sc L rc rd rn μ) (hB : cv_LB L) (hDB : cv_DB rc rd rn) : cv_Ct yX7_heights cX7_heights 5 (some .int) 6 0 0 17 cv_shM [.ref 0, .int x] μ (fun v u => v = some (.int (cv_a_heights L rc rd rn x)) ∧ cv_RM tr ft sl sc L rc rd rn u) := by
  refine cv_enter (own := RX7) (by decide) rfl (Nat.le_of_ble_eq_true rfl) ?_
  intro X a C Rt hRm
  have D := @cv_dec _ _ dkX7_heights
  obtain ⟨hTr, hFt, hSh, hL, hM, hD⟩ := id hR
  have hn6 := hB.1
  have hrc := hDB.1
  show cv_At X _ _ μ 0 [(0, .ref 0), (1, .int x)] []
  refine cv_aload_n C (pc' := 1) rfl (D 0 (0, .aload_n 0, 1) rfl) rfl (j := 0) rfl ?_
  refine cv_iload_n C (pc' := 2) rfl (D 1 (1, .iload_n 1, 1) rfl) rfl (j := 1) rfl ?_
  refine cv_callV C (pc' := 5) rfl (k0 := 0) (ci := 7) (As := [.int x]) (rest := []) (idx := 118) (np := 1) (kX7_isPass x L μ hL) (by decide) rfl rfl rfl (by decide +kernel) rfl wmX7_118 wi_yX7_isPass ws_yX7_isPass wn_X7 wc_yX7_isPass (by decide) (by decide) (D 2 (2, .invokevirtual 118, 3) rfl) (Nat.le_of_ble_eq_true rfl) rfl (fun w9 u9 h9 => ?_)
  rw [h9.1, h9.2]
  show cv_At X _ _ μ 5 _ [.int (cv_b (cv_in x (L 7 0)))]
  refine cv_if_neB C (pc' := 8) rfl (tgt := 10) (D 3 (5, .ifCond .ne 5, 3) rfl) (by decide) (fun b5 => ?_) (fun b5 => ?_)
  · skip
    obtain ⟨p, hp, rfl⟩ := cv_in_of b5 (by omega)
    have hp6 : p < 6 := by omega
    have hp := hp
    refine cv_aload_n C (pc' := 11) rfl (D 6 (10, .aload_n 0, 1) rfl) rfl (j := 0) rfl ?_
    refine cv_get C (pc' := 14) rfl (k0 := 0) (i := 12) (ci := 7) (by decide) rfl rfl (by decide) (o := some 10) rfl iw_X7 wfX7_37 (D 7 (11, .getfield 37, 3) rfl) rfl ?_
    refine cv_iload_n C (pc' := 15) rfl (D 8 (14, .iload_n 1, 1) rfl) rfl (j := 1) rfl ?_
    refine cv_iald C (pc' := 16) rfl (k0 := 10) (j := p) (by decide) rfl rfl (by omega) (by decide) (D 9 (15, .iaload, 1) rfl) (v := nI (L 4 p)) (hL.2.2.2 p hp 4 (by decide)) ?_
    refine cv_istore_n C (pc' := 17) rfl (D 10 (16, .istore_n 2, 1) rfl) rfl (by decide) (lv' := [(2, .int (nI (L 4 p))), (0, .ref 0), (1, .int (nI p))]) rfl ?_
    refine cv_iconst C (pc' := 18) rfl (D 11 (17, .iconst 0, 1) rfl) (v := nI 0) (by decide) ?_
    refine cv_istore_n C (pc' := 19) rfl (D 12 (18, .istore_n 3, 1) rfl) rfl (by decide) (lv' := [(3, .int (nI 0)), (2, .int (nI (L 4 p))), (0, .ref 0), (1, .int (nI p))]) rfl ?_
    refine cv_iconst C (pc' := 20) rfl (D 13 (19, .iconst 0, 1) rfl) (v := nI 0) (by decide) ?_
    refine cv_istore C (pc' := 22) rfl (D 14 (20, .istore 4, 2) rfl) (by decide) (lv' := [(4, .int (nI 0)), (3, .int (nI 0)), (2, .int (nI (L 4 p))), (0, .ref 0), (1, .int (nI p))]) rfl ?_
    refine cv_pick [0, 1, 3, 4, 2] (lv' := [(4, .int (nI 0)), (3, .int (nI (cv_sb (fun v => cv_hold (cv_lu L 4 p v) rc rd rn) 0))), (0, .ref 0), (1, .int (nI p)), (2, .int (nI (L 4 p)))]) rfl ?_
    have LP22 : ∀ (r : Nat) (v : Nat) (τ : cv_St), (v + r = 10) → (cv_f1 10 p μ τ) → cv_At X (17, cv_shM, 0, 0, a) 5 τ 22 [(4, .int (nI v)), (3, .int (nI (cv_sb (fun v => cv_hold (cv_lu L 4 p v) rc rd rn) v))), (0, .ref 0), (1, .int (nI p)), (2, .int (nI (L 4 p)))] [] := by
      intro r
      induction r with
      | zero =>
        intro v τ hr hIτ
        obtain rfl : v = 10 := by omega
        refine cv_iload C (pc' := 24) rfl (D 15 (22, .iload 4, 2) rfl) (j := 0) rfl ?_
        refine cv_bipush C (pc' := 26) rfl (D 16 (24, .bipush 9, 2) rfl) (v := nI 9) (by decide) ?_
        refine cv_icmp_gt C (pc' := 29) rfl (tgt := 61) (D 17 (26, .if_icmp .gt 35, 3) rfl) (by decide) (fun _ => ?_) (fun h => absurd h (by decide))
        refine cv_aload_n C (pc' := 62) rfl (D 36 (61, .aload_n 0, 1) rfl) rfl (j := 2) rfl ?_
        refine cv_get C (pc' := 65) rfl (k0 := 0) (i := 12) (ci := 7) (by decide) rfl rfl (by decide) (o := some 10) rfl iw_X7 wfX7_37 (D 37 (62, .getfield 37, 3) rfl) rfl ?_
        refine cv_iload_n C (pc' := 66) rfl (D 38 (65, .iload_n 1, 1) rfl) rfl (j := 3) rfl ?_
        refine cv_iload_n C (pc' := 67) rfl (D 39 (66, .iload_n 2, 1) rfl) rfl (j := 4) rfl ?_
        refine cv_iast C (pc' := 68) rfl (k0 := 10) (j := p) (by decide) rfl rfl (by omega) (by decide) (D 40 (67, .iastore, 1) rfl) ?_
        refine cv_iload_n C (pc' := 69) rfl (D 41 (68, .iload_n 3, 1) rfl) rfl (j := 1) rfl ?_
        exact cv_iret C Rt rfl (D 42 (69, .ireturn, 1) rfl) ⟨congrArg (fun z => some (Value.int z)) (by unfold cv_a_heights; rw [if_pos b5, cv_nt, nI_clamp (by omega)]), cv_RM_k (cv_fw_m (cv_f1_end (by decide) hIτ (hL.2.2.2 p hp 4 (by decide)))) hR⟩
      | succ r ih22 =>
        intro v τ hr hIτ
        refine cv_iload C (pc' := 24) rfl (D 15 (22, .iload 4, 2) rfl) (j := 0) rfl ?_
        refine cv_bipush C (pc' := 26) rfl (D 16 (24, .bipush 9, 2) rfl) (v := nI 9) (by decide) ?_
        refine cv_icmp_gtN C (pc' := 29) rfl (by omega) (by omega) (tgt := 61) (D 17 (26, .if_icmp .gt 35, 3) rfl) (by decide) (fun b26 => ?_) (fun b26 => ?_)
        · skip
          omega
        · skip
          refine cv_aload_n C (pc' := 30) rfl (D 18 (29, .aload_n 0, 1) rfl) rfl (j := 2) rfl ?_
          refine cv_get C (pc' := 33) rfl (k0 := 0) (i := 12) (ci := 7) (by decide) rfl rfl (by decide) (o := some 10) rfl iw_X7 wfX7_37 (D 19 (30, .getfield 37, 3) rfl) rfl ?_
          refine cv_iload_n C (pc' := 34) rfl (D 20 (33, .iload_n 1, 1) rfl) rfl (j := 3) rfl ?_
          refine cv_iload C (pc' := 36) rfl (D 21 (34, .iload 4, 2) rfl) (j := 0) rfl ?_
          refine cv_iast C (pc' := 37) rfl (k0 := 10) (j := p) (by decide) rfl rfl (by omega) (by decide) (D 22 (36, .iastore, 1) rfl) ?_
          refine cv_iload_n C (pc' := 38) rfl (D 23 (37, .iload_n 3, 1) rfl) rfl (j := 1) rfl ?_
          refine cv_aload_n C (pc' := 39) rfl (D 24 (38, .aload_n 0, 1) rfl) rfl (j := 2) rfl ?_
          have hLs := cv_LM_w (cv_f1_u (by omega) hIτ (nI v)) (cv_LM_pass hL (i := 4) (by decide) p v)
          have hBs : cv_LB (cv_lu L 4 p v) := cv_LB_high hB (by omega)
          have hDs := cv_DM_k (cv_fw_m (cv_f1_u (c := 10) (j := p) (by omega) hIτ (nI v))) (cv_DM_1 (by omega) hD)
          have hMs : (cv_u τ 10 p (nI v)) 0 13 = -9 := by rw [cv_u_c (by omega), hIτ.2.1 13 (by decide) (by decide)]; exact hM
          refine cv_callV C (pc' := 42) rfl (k0 := 0) (ci := 7) (As := []) (rest := [.int (nI (cv_sb (fun v => cv_hold (cv_lu L 4 p v) rc rd rn) v))]) (idx := 188) (np := 0) (kX7_areSo (cv_lu L 4 p v) (-9) rc rd rn (cv_u τ 10 p (nI v)) hLs hBs hMs hDs hDB) (by decide) rfl rfl rfl (by decide +kernel) rfl wmX7_188 wi_yX7_areSo ws_yX7_areSo wn_X7 wc_yX7_areSo (by decide) (by decide) (D 25 (39, .invokevirtual 188, 3) rfl) (Nat.le_of_ble_eq_true rfl) rfl (fun w39 u39 h39 => ?_)
          obtain ⟨e39, f39⟩ := h39
          rw [e39, cv_ho_9 hBs]
          have hIu39 : cv_f1 10 p μ u39 := cv_f1_s (by omega) (by omega) hIτ f39
          show cv_At X _ _ u39 42 _ [.int (cv_b (cv_hold (cv_lu L 4 p v) rc rd rn)), .int (nI (cv_sb (fun v => cv_hold (cv_lu L 4 p v) rc rd rn) v))]
          refine cv_if_eqB C (pc' := 45) rfl (tgt := 52) (D 26 (42, .ifCond .eq 10, 3) rfl) (by decide) (fun b42 => ?_) (fun b42 => ?_)
          · skip
            refine cv_iconst C (pc' := 53) rfl (D 31 (52, .iconst 0, 1) rfl) (v := nI 0) (by decide) ?_
            refine cv_iorN C (pc' := 54) rfl (D 32 (53, .ior, 1) rfl) ?_
            refine cv_istore_n C (pc' := 55) rfl (D 33 (54, .istore_n 3, 1) rfl) rfl (by decide) (lv' := [(3, .int (nI ((cv_sb (fun v => cv_hold (cv_lu L 4 p v) rc rd rn) v) ||| 0))), (4, .int (nI v)), (0, .ref 0), (1, .int (nI p)), (2, .int (nI (L 4 p)))]) rfl ?_
            refine cv_iincN C (pc' := 58) rfl (D 34 (55, .iinc 4 1, 3) rfl) (j := 1) rfl (by decide) (lv' := [(4, .int (nI (v + 1))), (3, .int (nI ((cv_sb (fun v => cv_hold (cv_lu L 4 p v) rc rd rn) v) ||| 0))), (0, .ref 0), (1, .int (nI p)), (2, .int (nI (L 4 p)))]) rfl ?_
            refine cv_goto C (tgt := 22) (D 35 (58, .goto (-36), 3) rfl) (by decide) ?_
            have hw9 : (cv_sb (fun v => cv_hold (cv_lu L 4 p v) rc rd rn) v) ||| 0 = cv_sb (fun v => cv_hold (cv_lu L 4 p v) rc rd rn) (v + 1) := by simp [cv_sb, b42]
            rw [hw9]
            exact ih22 (v + 1) u39 (by omega) hIu39
          · skip
            refine cv_iconst C (pc' := 46) rfl (D 27 (45, .iconst 1, 1) rfl) (v := nI 1) (by decide) ?_
            refine cv_iload C (pc' := 48) rfl (D 28 (46, .iload 4, 2) rfl) (j := 0) rfl ?_
            refine cv_ishl1 C (pc' := 49) rfl (by omega) (D 29 (48, .ishl, 1) rfl) ?_
            refine cv_goto C (tgt := 53) (D 30 (49, .goto 4, 3) rfl) (by decide) ?_
            refine cv_iorN C (pc' := 54) rfl (D 32 (53, .ior, 1) rfl) ?_
            refine cv_istore_n C (pc' := 55) rfl (D 33 (54, .istore_n 3, 1) rfl) rfl (by decide) (lv' := [(3, .int (nI ((cv_sb (fun v => cv_hold (cv_lu L 4 p v) rc rd rn) v) ||| (2 ^ v)))), (4, .int (nI v)), (0, .ref 0), (1, .int (nI p)), (2, .int (nI (L 4 p)))]) rfl ?_
            refine cv_iincN C (pc' := 58) rfl (D 34 (55, .iinc 4 1, 3) rfl) (j := 1) rfl (by decide) (lv' := [(4, .int (nI (v + 1))), (3, .int (nI ((cv_sb (fun v => cv_hold (cv_lu L 4 p v) rc rd rn) v) ||| (2 ^ v)))), (0, .ref 0), (1, .int (nI p)), (2, .int (nI (L 4 p)))]) rfl ?_
            refine cv_goto C (tgt := 22) (D 35 (58, .goto (-36), 3) rfl) (by decide) ?_
            have hw9 : (cv_sb (fun v => cv_hold (cv_lu L 4 p v) rc rd rn) v) ||| (2 ^ v) = cv_sb (fun v => cv_hold (cv_lu L 4 p v) rc rd rn) (v + 1) := by simp [cv_sb, b42]
            rw [hw9]
            exact ih22 (v + 1) u39 (by omega) hIu39
    exact LP22 10 0 μ (by decide) (cv_f1_r _ _ μ)
  · skip
    refine cv_iconst C (pc' := 9) rfl (D 4 (8, .iconst (-1), 1) rfl) (v := -1) (by decide) ?_
    exact cv_iret C Rt rfl (D 5 (9, .ireturn, 1) rfl) ⟨congrArg (fun z => some (Value.int z)) (by unfold cv_a_heights; rw [if_neg (by simp [b5])]), hR⟩

set_option maxHeartbeats 4000000 in
set_option maxRecDepth 100000 in
theorem pX7_kinds (tr : Int32) (ft : Nat) (sl : Nat → Option (Nat × Nat)) (sc : Nat → Nat → Int32) (L : cv_L) (rc : Nat) (rd : Nat → Nat) (rn : Nat → Option Nat) (x : Int32) (μ : cv_St) (hR : cv_RM tr ft sl sc L rc rd rn μ) (hB : cv_LB L) (hDB : cv_DB rc rd rn) : cv_Ct yX7_kinds cX7_kinds 5 (some .int) 6 0 0 17 cv_shM [.ref 0, .int x] μ (fun v u => v = some (.int (cv_a_kinds L rc rd rn x)) ∧ cv_RM tr ft sl sc L rc rd rn u) := by
  refine cv_enter (own := RX7) (by decide) rfl (Nat.le_of_ble_eq_true rfl) ?_
  intro X a C Rt hRm
  have D := @cv_dec _ _ dkX7_kinds
  obtain ⟨hTr, hFt, hSh, hL, hM, hD⟩ := id hR
  have hn6 := hB.1
  have hrc := hDB.1
  show cv_At X _ _ μ 0 [(0, .ref 0), (1, .int x)] []
  refine cv_aload_n C (pc' := 1) rfl (D 0 (0, .aload_n 0, 1) rfl) rfl (j := 0) rfl ?_
  refine cv_iload_n C (pc' := 2) rfl (D 1 (1, .iload_n 1, 1) rfl) rfl (j := 1) rfl ?_
  refine cv_callV C (pc' := 5) rfl (k0 := 0) (ci := 7) (As := [.int x]) (rest := []) (idx := 118) (np := 1) (kX7_isPass x L μ hL) (by decide) rfl rfl rfl (by decide +kernel) rfl wmX7_118 wi_yX7_isPass ws_yX7_isPass wn_X7 wc_yX7_isPass (by decide) (by decide) (D 2 (2, .invokevirtual 118, 3) rfl) (Nat.le_of_ble_eq_true rfl) rfl (fun w9 u9 h9 => ?_)
  rw [h9.1, h9.2]
  show cv_At X _ _ μ 5 _ [.int (cv_b (cv_in x (L 7 0)))]
  refine cv_if_neB C (pc' := 8) rfl (tgt := 10) (D 3 (5, .ifCond .ne 5, 3) rfl) (by decide) (fun b5 => ?_) (fun b5 => ?_)
  · skip
    obtain ⟨p, hp, rfl⟩ := cv_in_of b5 (by omega)
    have hp6 : p < 6 := by omega
    have hp := hp
    refine cv_aload_n C (pc' := 11) rfl (D 6 (10, .aload_n 0, 1) rfl) rfl (j := 0) rfl ?_
    refine cv_get C (pc' := 14) rfl (k0 := 0) (i := 8) (ci := 7) (by decide) rfl rfl (by decide) (o := some 6) rfl iw_X7 wfX7_25 (D 7 (11, .getfield 25, 3) rfl) rfl ?_
    refine cv_iload_n C (pc' := 15) rfl (D 8 (14, .iload_n 1, 1) rfl) rfl (j := 1) rfl ?_
    refine cv_iald C (pc' := 16) rfl (k0 := 6) (j := p) (by decide) rfl rfl (by omega) (by decide) (D 9 (15, .iaload, 1) rfl) (v := nI (L 0 p)) (hL.2.2.2 p hp 0 (by decide)) ?_
    refine cv_istore_n C (pc' := 17) rfl (D 10 (16, .istore_n 2, 1) rfl) rfl (by decide) (lv' := [(2, .int (nI (L 0 p))), (0, .ref 0), (1, .int (nI p))]) rfl ?_
    refine cv_iconst C (pc' := 18) rfl (D 11 (17, .iconst 0, 1) rfl) (v := nI 0) (by decide) ?_
    refine cv_istore_n C (pc' := 19) rfl (D 12 (18, .istore_n 3, 1) rfl) rfl (by decide) (lv' := [(3, .int (nI 0)), (2, .int (nI (L 0 p))), (0, .ref 0), (1, .int (nI p))]) rfl ?_
    refine cv_iconst C (pc' := 20) rfl (D 13 (19, .iconst 0, 1) rfl) (v := nI 0) (by decide) ?_
    refine cv_istore C (pc' := 22) rfl (D 14 (20, .istore 4, 2) rfl) (by decide) (lv' := [(4, .int (nI 0)), (3, .int (nI 0)), (2, .int (nI (L 0 p))), (0, .ref 0), (1, .int (nI p))]) rfl ?_
    refine cv_pick [0, 1, 3, 4, 2] (lv' := [(4, .int (nI 0)), (3, .int (nI (cv_sb (fun v => cv_hold (cv_lu L 0 p v) rc rd rn) 0))), (0, .ref 0), (1, .int (nI p)), (2, .int (nI (L 0 p)))]) rfl ?_
    have LP22 : ∀ (r : Nat) (v : Nat) (τ : cv_St), (v + r = 3) → (cv_f1 6 p μ τ) → cv_At X (17, cv_shM, 0, 0, a) 5 τ 22 [(4, .int (nI v)), (3, .int (nI (cv_sb (fun v => cv_hold (cv_lu L 0 p v) rc rd rn) v))), (0, .ref 0), (1, .int (nI p)), (2, .int (nI (L 0 p)))] [] := by
      intro r
      induction r with
      | zero =>
        intro v τ hr hIτ
        obtain rfl : v = 3 := by omega
        refine cv_iload C (pc' := 24) rfl (D 15 (22, .iload 4, 2) rfl) (j := 0) rfl ?_
        refine cv_iconst C (pc' := 25) rfl (D 16 (24, .iconst 3, 1) rfl) (v := nI 3) (by decide) ?_
        refine cv_icmp_ge C (pc' := 28) rfl (tgt := 60) (D 17 (25, .if_icmp .ge 35, 3) rfl) (by decide) (fun _ => ?_) (fun h => absurd h (by decide))
        refine cv_aload_n C (pc' := 61) rfl (D 36 (60, .aload_n 0, 1) rfl) rfl (j := 2) rfl ?_
        refine cv_get C (pc' := 64) rfl (k0 := 0) (i := 8) (ci := 7) (by decide) rfl rfl (by decide) (o := some 6) rfl iw_X7 wfX7_25 (D 37 (61, .getfield 25, 3) rfl) rfl ?_
        refine cv_iload_n C (pc' := 65) rfl (D 38 (64, .iload_n 1, 1) rfl) rfl (j := 3) rfl ?_
        refine cv_iload_n C (pc' := 66) rfl (D 39 (65, .iload_n 2, 1) rfl) rfl (j := 4) rfl ?_
        refine cv_iast C (pc' := 67) rfl (k0 := 6) (j := p) (by decide) rfl rfl (by omega) (by decide) (D 40 (66, .iastore, 1) rfl) ?_
        refine cv_iload_n C (pc' := 68) rfl (D 41 (67, .iload_n 3, 1) rfl) rfl (j := 1) rfl ?_
        exact cv_iret C Rt rfl (D 42 (68, .ireturn, 1) rfl) ⟨congrArg (fun z => some (Value.int z)) (by unfold cv_a_kinds; rw [if_pos b5, cv_nt, nI_clamp (by omega)]), cv_RM_k (cv_fw_m (cv_f1_end (by decide) hIτ (hL.2.2.2 p hp 0 (by decide)))) hR⟩
      | succ r ih22 =>
        intro v τ hr hIτ
        refine cv_iload C (pc' := 24) rfl (D 15 (22, .iload 4, 2) rfl) (j := 0) rfl ?_
        refine cv_iconst C (pc' := 25) rfl (D 16 (24, .iconst 3, 1) rfl) (v := nI 3) (by decide) ?_
        refine cv_icmp_geN C (pc' := 28) rfl (by omega) (by omega) (tgt := 60) (D 17 (25, .if_icmp .ge 35, 3) rfl) (by decide) (fun b25 => ?_) (fun b25 => ?_)
        · skip
          omega
        · skip
          refine cv_aload_n C (pc' := 29) rfl (D 18 (28, .aload_n 0, 1) rfl) rfl (j := 2) rfl ?_
          refine cv_get C (pc' := 32) rfl (k0 := 0) (i := 8) (ci := 7) (by decide) rfl rfl (by decide) (o := some 6) rfl iw_X7 wfX7_25 (D 19 (29, .getfield 25, 3) rfl) rfl ?_
          refine cv_iload_n C (pc' := 33) rfl (D 20 (32, .iload_n 1, 1) rfl) rfl (j := 3) rfl ?_
          refine cv_iload C (pc' := 35) rfl (D 21 (33, .iload 4, 2) rfl) (j := 0) rfl ?_
          refine cv_iast C (pc' := 36) rfl (k0 := 6) (j := p) (by decide) rfl rfl (by omega) (by decide) (D 22 (35, .iastore, 1) rfl) ?_
          refine cv_iload_n C (pc' := 37) rfl (D 23 (36, .iload_n 3, 1) rfl) rfl (j := 1) rfl ?_
          refine cv_aload_n C (pc' := 38) rfl (D 24 (37, .aload_n 0, 1) rfl) rfl (j := 2) rfl ?_
          have hLs := cv_LM_w (cv_f1_u (by omega) hIτ (nI v)) (cv_LM_pass hL (i := 0) (by decide) p v)
          have hBs : cv_LB (cv_lu L 0 p v) := cv_LB_kind hB (by omega)
          have hDs := cv_DM_k (cv_fw_m (cv_f1_u (c := 6) (j := p) (by omega) hIτ (nI v))) (cv_DM_1 (by omega) hD)
          have hMs : (cv_u τ 6 p (nI v)) 0 13 = -9 := by rw [cv_u_c (by omega), hIτ.2.1 13 (by decide) (by decide)]; exact hM
          refine cv_callV C (pc' := 41) rfl (k0 := 0) (ci := 7) (As := []) (rest := [.int (nI (cv_sb (fun v => cv_hold (cv_lu L 0 p v) rc rd rn) v))]) (idx := 188) (np := 0) (kX7_areSo (cv_lu L 0 p v) (-9) rc rd rn (cv_u τ 6 p (nI v)) hLs hBs hMs hDs hDB) (by decide) rfl rfl rfl (by decide +kernel) rfl wmX7_188 wi_yX7_areSo ws_yX7_areSo wn_X7 wc_yX7_areSo (by decide) (by decide) (D 25 (38, .invokevirtual 188, 3) rfl) (Nat.le_of_ble_eq_true rfl) rfl (fun w38 u38 h38 => ?_)
          obtain ⟨e38, f38⟩ := h38
          rw [e38, cv_ho_9 hBs]
          have hIu38 : cv_f1 6 p μ u38 := cv_f1_s (by omega) (by omega) hIτ f38
          show cv_At X _ _ u38 41 _ [.int (cv_b (cv_hold (cv_lu L 0 p v) rc rd rn)), .int (nI (cv_sb (fun v => cv_hold (cv_lu L 0 p v) rc rd rn) v))]
          refine cv_if_eqB C (pc' := 44) rfl (tgt := 51) (D 26 (41, .ifCond .eq 10, 3) rfl) (by decide) (fun b41 => ?_) (fun b41 => ?_)
          · skip
            refine cv_iconst C (pc' := 52) rfl (D 31 (51, .iconst 0, 1) rfl) (v := nI 0) (by decide) ?_
            refine cv_iorN C (pc' := 53) rfl (D 32 (52, .ior, 1) rfl) ?_
            refine cv_istore_n C (pc' := 54) rfl (D 33 (53, .istore_n 3, 1) rfl) rfl (by decide) (lv' := [(3, .int (nI ((cv_sb (fun v => cv_hold (cv_lu L 0 p v) rc rd rn) v) ||| 0))), (4, .int (nI v)), (0, .ref 0), (1, .int (nI p)), (2, .int (nI (L 0 p)))]) rfl ?_
            refine cv_iincN C (pc' := 57) rfl (D 34 (54, .iinc 4 1, 3) rfl) (j := 1) rfl (by decide) (lv' := [(4, .int (nI (v + 1))), (3, .int (nI ((cv_sb (fun v => cv_hold (cv_lu L 0 p v) rc rd rn) v) ||| 0))), (0, .ref 0), (1, .int (nI p)), (2, .int (nI (L 0 p)))]) rfl ?_
            refine cv_goto C (tgt := 22) (D 35 (57, .goto (-35), 3) rfl) (by decide) ?_
            have hw9 : (cv_sb (fun v => cv_hold (cv_lu L 0 p v) rc rd rn) v) ||| 0 = cv_sb (fun v => cv_hold (cv_lu L 0 p v) rc rd rn) (v + 1) := by simp [cv_sb, b41]
            rw [hw9]
            exact ih22 (v + 1) u38 (by omega) hIu38
          · skip
            refine cv_iconst C (pc' := 45) rfl (D 27 (44, .iconst 1, 1) rfl) (v := nI 1) (by decide) ?_
            refine cv_iload C (pc' := 47) rfl (D 28 (45, .iload 4, 2) rfl) (j := 0) rfl ?_
            refine cv_ishl1 C (pc' := 48) rfl (by omega) (D 29 (47, .ishl, 1) rfl) ?_
            refine cv_goto C (tgt := 52) (D 30 (48, .goto 4, 3) rfl) (by decide) ?_
            refine cv_iorN C (pc' := 53) rfl (D 32 (52, .ior, 1) rfl) ?_
            refine cv_istore_n C (pc' := 54) rfl (D 33 (53, .istore_n 3, 1) rfl) rfl (by decide) (lv' := [(3, .int (nI ((cv_sb (fun v => cv_hold (cv_lu L 0 p v) rc rd rn) v) ||| (2 ^ v)))), (4, .int (nI v)), (0, .ref 0), (1, .int (nI p)), (2, .int (nI (L 0 p)))]) rfl ?_
            refine cv_iincN C (pc' := 57) rfl (D 34 (54, .iinc 4 1, 3) rfl) (j := 1) rfl (by decide) (lv' := [(4, .int (nI (v + 1))), (3, .int (nI ((cv_sb (fun v => cv_hold (cv_lu L 0 p v) rc rd rn) v) ||| (2 ^ v)))), (0, .ref 0), (1, .int (nI p)), (2, .int (nI (L 0 p)))]) rfl ?_
            refine cv_goto C (tgt := 22) (D 35 (57, .goto (-35), 3) rfl) (by decide) ?_
            have hw9 : (cv_sb (fun v => cv_hold (cv_lu L 0 p v) rc rd rn) v) ||| (2 ^ v) = cv_sb (fun v => cv_hold (cv_lu L 0 p v) rc rd rn) (v + 1) := by simp [cv_sb, b41]
            rw [hw9]
            exact ih22 (v + 1) u38 (by omega) hIu38
    exact LP22 3 0 μ (by decide) (cv_f1_r _ _ μ)
  · skip
    refine cv_iconst C (pc' := 9) rfl (D 4 (8, .iconst (-1), 1) rfl) (v := -1) (by decide) ?_
    exact cv_iret C Rt rfl (D 5 (9, .ireturn, 1) rfl) ⟨congrArg (fun z => some (Value.int z)) (by unfold cv_a_kinds; rw [if_neg (by simp [b5])]), hR⟩

set_option maxHeartbeats 4000000 in
set_option maxRecDepth 100000 in
theorem pX7_gave (tr : Int32) (ft : Nat) (sl : Nat → Option (Nat × Nat)) (sc : Nat → Nat → Int32) (L : cv_L) (rc : Nat) (rd : Nat → Nat) (rn : Nat → Option Nat) (x y : Int32) (μ : cv_St) (hR : cv_RM tr ft sl sc L rc rd rn μ) (hB : cv_LB L) (hDB : cv_DB rc rd rn) : cv_Ct yX7_gave cX7_gave 7 (some .int) 6 0 0 17 cv_shM [.ref 0, .int x, .int y] μ (fun v u => v = some (.int (cv_a_gave L rc rd rn x y)) ∧ cv_RM tr ft sl sc L rc rd rn u) := by
  refine cv_enter (own := RX7) (by decide) rfl (Nat.le_of_ble_eq_true rfl) ?_
  intro X a C Rt hRm
  have D := @cv_dec _ _ dkX7_gave
  obtain ⟨hTr, hFt, hSh, hL, hM, hD⟩ := id hR
  have hn6 := hB.1
  have hrc := hDB.1
  show cv_At X _ _ μ 0 [(0, .ref 0), (1, .int x), (2, .int y)] []
  refine cv_iload_n C (pc' := 1) rfl (D 0 (0, .iload_n 1, 1) rfl) rfl (j := 1) rfl ?_
  refine cv_callS C (pc' := 4) rfl (As := [.int x]) (rest := []) (idx := 127) (np := 1) (kX7_isValley x μ) (by decide +kernel) rfl wmX7_127 wt_yX7_isValley wn_X7 wc_yX7_isValley (by decide) (by decide) (D 1 (1, .invokestatic 127, 3) rfl) (Nat.le_of_ble_eq_true rfl) rfl (fun w9 u9 h9 => ?_)
  rw [h9.1, h9.2]
  show cv_At X _ _ μ 4 _ [.int (cv_b (cv_in x 3))]
  refine cv_if_neB C (pc' := 7) rfl (tgt := 9) (D 2 (4, .ifCond .ne 5, 3) rfl) (by decide) (fun b4 => ?_) (fun b4 => ?_)
  · skip
    refine cv_iload_n C (pc' := 10) rfl (D 5 (9, .iload_n 2, 1) rfl) rfl (j := 2) rfl ?_
    refine cv_iconst C (pc' := 11) rfl (D 6 (10, .iconst 0, 1) rfl) (v := nI 0) (by decide) ?_
    refine cv_iconst C (pc' := 12) rfl (D 7 (11, .iconst 1, 1) rfl) (v := nI 1) (by decide) ?_
    refine cv_callS C (pc' := 15) rfl (As := [.int y, .int (nI 0), .int (nI 1)]) (rest := []) (idx := 67) (np := 3) (kX7_within y (nI 0) (nI 1) μ) (by decide +kernel) rfl wmX7_67 wt_yX7_within wn_X7 wc_yX7_within (by decide) (by decide) (D 8 (12, .invokestatic 67, 3) rfl) (Nat.le_of_ble_eq_true rfl) rfl (fun w9 u9 h9 => ?_)
    rw [h9.1, h9.2]
    show cv_At X _ _ μ 15 _ [.int (cv_b (decide ((nI 0) ≤ y ∧ y ≤ (nI 1))))]
    refine cv_if_neB C (pc' := 18) rfl (tgt := 21) (D 9 (15, .ifCond .ne 6, 3) rfl) (by decide) (fun b15 => ?_) (fun b15 => ?_)
    · skip
      rw [cv_in_le (n := 1) (by decide)] at b15
      obtain ⟨j, hj, rfl⟩ := cv_in_of b4 (by omega)
      obtain ⟨w, hw, rfl⟩ := cv_in_of b15 (by omega)
      refine cv_aload_n C (pc' := 22) rfl (D 12 (21, .aload_n 0, 1) rfl) rfl (j := 0) rfl ?_
      refine cv_get C (pc' := 25) rfl (k0 := 0) (i := 5) (ci := 7) (by decide) rfl rfl (by decide) (o := none) rfl iw_X7 wfX7_71 (D 13 (22, .getfield 71, 3) rfl) (v := .int (nI (L 7 0))) (congrArg Value.int hL.1) ?_
      refine cv_if_neN C (pc' := 28) rfl (by omega) (tgt := 31) (D 14 (25, .ifCond .ne 6, 3) rfl) (by decide) (fun b25 => ?_) (fun b25 => ?_)
      · skip
        refine cv_aload_n C (pc' := 32) rfl (D 17 (31, .aload_n 0, 1) rfl) rfl (j := 0) rfl ?_
        refine cv_get C (pc' := 35) rfl (k0 := 0) (i := 7) (ci := 7) (by decide) rfl rfl (by decide) (o := some 5) rfl iw_X7 wfX7_22 (D 18 (32, .getfield 22, 3) rfl) rfl ?_
        refine cv_iload_n C (pc' := 36) rfl (D 19 (35, .iload_n 1, 1) rfl) rfl (j := 1) rfl ?_
        refine cv_iald C (pc' := 37) rfl (k0 := 5) (j := j) (by decide) rfl rfl (by omega) (by decide) (D 20 (36, .iaload, 1) rfl) (v := nI (L 6 j)) (hL.2.2.1 _ (by omega)) ?_
        refine cv_istore_n C (pc' := 38) rfl (D 21 (37, .istore_n 3, 1) rfl) rfl (by decide) (lv' := [(3, .int (nI (L 6 j))), (0, .ref 0), (1, .int (nI j)), (2, .int (nI w))]) rfl ?_
        refine cv_iconst C (pc' := 39) rfl (D 22 (38, .iconst 0, 1) rfl) (v := nI 0) (by decide) ?_
        refine cv_istore C (pc' := 41) rfl (D 23 (39, .istore 4, 2) rfl) (by decide) (lv' := [(4, .int (nI 0)), (3, .int (nI (L 6 j))), (0, .ref 0), (1, .int (nI j)), (2, .int (nI w))]) rfl ?_
        refine cv_bipush C (pc' := 43) rfl (D 24 (41, .bipush (-9), 2) rfl) (v := -9) (by decide) ?_
        refine cv_istore C (pc' := 45) rfl (D 25 (43, .istore 5, 2) rfl) (by decide) (lv' := [(5, .int (-9)), (4, .int (nI 0)), (3, .int (nI (L 6 j))), (0, .ref 0), (1, .int (nI j)), (2, .int (nI w))]) rfl ?_
        refine cv_iconst C (pc' := 46) rfl (D 26 (45, .iconst 0, 1) rfl) (v := nI 0) (by decide) ?_
        refine cv_istore C (pc' := 48) rfl (D 27 (46, .istore 6, 2) rfl) (by decide) (lv' := [(6, .int (nI 0)), (5, .int (-9)), (4, .int (nI 0)), (3, .int (nI (L 6 j))), (0, .ref 0), (1, .int (nI j)), (2, .int (nI w))]) rfl ?_
        refine cv_pick [0, 1, 2, 4, 5, 6, 3] (lv' := [(6, .int (nI 0)), (5, .int (cv_o (cv_lst (fun s => cv_hold (cv_lu L 6 j s) rc rd rn) 0))), (4, .int (nI (cv_cnt (fun s => cv_hold (cv_lu L 6 j s) rc rd rn) 0))), (0, .ref 0), (1, .int (nI j)), (2, .int (nI w)), (3, .int (nI (L 6 j)))]) rfl ?_
        have LP48 : ∀ (r : Nat) (v : Nat) (τ : cv_St), (v + r = 256) → (cv_f1 5 j μ τ) → cv_At X (17, cv_shM, 0, 0, a) 7 τ 48 [(6, .int (nI v)), (5, .int (cv_o (cv_lst (fun s => cv_hold (cv_lu L 6 j s) rc rd rn) v))), (4, .int (nI (cv_cnt (fun s => cv_hold (cv_lu L 6 j s) rc rd rn) v))), (0, .ref 0), (1, .int (nI j)), (2, .int (nI w)), (3, .int (nI (L 6 j)))] [] := by
          intro r
          induction r with
          | zero =>
            intro v τ hr hIτ
            obtain rfl : v = 256 := by omega
            refine cv_iload C (pc' := 50) rfl (D 28 (48, .iload 6, 2) rfl) (j := 0) rfl ?_
            refine cv_sipush C (pc' := 53) rfl (D 29 (50, .sipush 255, 3) rfl) (v := nI 255) (by decide) ?_
            refine cv_icmp_gt C (pc' := 56) rfl (tgt := 94) (D 30 (53, .if_icmp .gt 41, 3) rfl) (by decide) (fun _ => ?_) (fun h => absurd h (by decide))
            refine cv_aload_n C (pc' := 95) rfl (D 48 (94, .aload_n 0, 1) rfl) rfl (j := 3) rfl ?_
            refine cv_get C (pc' := 98) rfl (k0 := 0) (i := 7) (ci := 7) (by decide) rfl rfl (by decide) (o := some 5) rfl iw_X7 wfX7_22 (D 49 (95, .getfield 22, 3) rfl) rfl ?_
            refine cv_iload_n C (pc' := 99) rfl (D 50 (98, .iload_n 1, 1) rfl) rfl (j := 4) rfl ?_
            refine cv_iload_n C (pc' := 100) rfl (D 51 (99, .iload_n 3, 1) rfl) rfl (j := 6) rfl ?_
            refine cv_iast C (pc' := 101) rfl (k0 := 5) (j := j) (by decide) rfl rfl (by omega) (by decide) (D 52 (100, .iastore, 1) rfl) ?_
            refine cv_iload_n C (pc' := 102) rfl (D 53 (101, .iload_n 2, 1) rfl) rfl (j := 5) rfl ?_
            refine cv_if_neN C (pc' := 105) rfl (by omega) (tgt := 110) (D 54 (102, .ifCond .ne 8, 3) rfl) (by decide) (fun b102 => ?_) (fun b102 => ?_)
            · skip
              refine cv_iload C (pc' := 112) rfl (D 57 (110, .iload 5, 2) rfl) (j := 1) rfl ?_
              exact cv_iret C Rt rfl (D 58 (112, .ireturn, 1) rfl) ⟨congrArg (fun z => some (Value.int z)) (by unfold cv_a_gave; rw [if_pos b4, if_pos b15, if_pos (by omega), if_neg (fun h => by rw [← nI_0] at h; have := (nI_eq (by omega) (by omega)).mp h; omega), cv_nt, nI_clamp (by omega)]), cv_RM_k (cv_fw_m (cv_f1_end (by decide) hIτ (hL.2.2.1 j (by omega)))) hR⟩
            · skip
              refine cv_iload C (pc' := 107) rfl (D 55 (105, .iload 4, 2) rfl) (j := 2) rfl ?_
              refine cv_goto C (tgt := 112) (D 56 (107, .goto 5, 3) rfl) (by decide) ?_
              exact cv_iret C Rt rfl (D 58 (112, .ireturn, 1) rfl) ⟨congrArg (fun z => some (Value.int z)) (by unfold cv_a_gave; rw [if_pos b4, if_pos b15, if_pos (by omega), if_pos (by rw [b102]; rfl), cv_nt, nI_clamp (by omega)]), cv_RM_k (cv_fw_m (cv_f1_end (by decide) hIτ (hL.2.2.1 j (by omega)))) hR⟩
          | succ r ih48 =>
            intro v τ hr hIτ
            have hcl := cv_cnt_le (fun s => cv_hold (cv_lu L 6 j s) rc rd rn) v
            refine cv_iload C (pc' := 50) rfl (D 28 (48, .iload 6, 2) rfl) (j := 0) rfl ?_
            refine cv_sipush C (pc' := 53) rfl (D 29 (50, .sipush 255, 3) rfl) (v := nI 255) (by decide) ?_
            refine cv_icmp_gtN C (pc' := 56) rfl (by omega) (by omega) (tgt := 94) (D 30 (53, .if_icmp .gt 41, 3) rfl) (by decide) (fun b53 => ?_) (fun b53 => ?_)
            · skip
              omega
            · skip
              refine cv_aload_n C (pc' := 57) rfl (D 31 (56, .aload_n 0, 1) rfl) rfl (j := 3) rfl ?_
              refine cv_get C (pc' := 60) rfl (k0 := 0) (i := 7) (ci := 7) (by decide) rfl rfl (by decide) (o := some 5) rfl iw_X7 wfX7_22 (D 32 (57, .getfield 22, 3) rfl) rfl ?_
              refine cv_iload_n C (pc' := 61) rfl (D 33 (60, .iload_n 1, 1) rfl) rfl (j := 4) rfl ?_
              refine cv_iload C (pc' := 63) rfl (D 34 (61, .iload 6, 2) rfl) (j := 0) rfl ?_
              refine cv_iast C (pc' := 64) rfl (k0 := 5) (j := j) (by decide) rfl rfl (by omega) (by decide) (D 35 (63, .iastore, 1) rfl) ?_
              refine cv_aload_n C (pc' := 65) rfl (D 36 (64, .aload_n 0, 1) rfl) rfl (j := 3) rfl ?_
              have hLs := cv_LM_w (cv_f1_u (by omega) hIτ (nI v)) (cv_LM_give hL j v)
              have hBs : cv_LB (cv_lu L 6 j v) := cv_LB_give hB (by omega)
              have hDs := cv_DM_k (cv_fw_m (cv_f1_u (c := 5) (j := j) (by omega) hIτ (nI v))) (cv_DM_1 (by omega) hD)
              have hMs : (cv_u τ 5 j (nI v)) 0 13 = -9 := by rw [cv_u_c (by omega), hIτ.2.1 13 (by decide) (by decide)]; exact hM
              refine cv_callV C (pc' := 68) rfl (k0 := 0) (ci := 7) (As := []) (rest := []) (idx := 188) (np := 0) (kX7_areSo (cv_lu L 6 j v) (-9) rc rd rn (cv_u τ 5 j (nI v)) hLs hBs hMs hDs hDB) (by decide) rfl rfl rfl (by decide +kernel) rfl wmX7_188 wi_yX7_areSo ws_yX7_areSo wn_X7 wc_yX7_areSo (by decide) (by decide) (D 37 (65, .invokevirtual 188, 3) rfl) (Nat.le_of_ble_eq_true rfl) rfl (fun w65 u65 h65 => ?_)
              obtain ⟨e65, f65⟩ := h65
              rw [e65, cv_ho_9 hBs]
              have hIu65 : cv_f1 5 j μ u65 := cv_f1_s (by omega) (by omega) hIτ f65
              show cv_At X _ _ u65 68 _ [.int (cv_b (cv_hold (cv_lu L 6 j v) rc rd rn))]
              refine cv_if_eqB C (pc' := 71) rfl (tgt := 88) (D 38 (68, .ifCond .eq 20, 3) rfl) (by decide) (fun b68 => ?_) (fun b68 => ?_)
              · skip
                refine cv_iincN C (pc' := 91) rfl (D 46 (88, .iinc 6 1, 3) rfl) (j := 0) rfl (by decide) (lv' := [(6, .int (nI (v + 1))), (5, .int (cv_o (cv_lst (fun s => cv_hold (cv_lu L 6 j s) rc rd rn) v))), (4, .int (nI (cv_cnt (fun s => cv_hold (cv_lu L 6 j s) rc rd rn) v))), (0, .ref 0), (1, .int (nI j)), (2, .int (nI w)), (3, .int (nI (L 6 j)))]) rfl ?_
                refine cv_goto C (tgt := 48) (D 47 (91, .goto (-43), 3) rfl) (by decide) ?_
                have hw4 : cv_cnt (fun s => cv_hold (cv_lu L 6 j s) rc rd rn) v = cv_cnt (fun s => cv_hold (cv_lu L 6 j s) rc rd rn) (v + 1) := (cv_cnt_f (P := (fun s => cv_hold (cv_lu L 6 j s) rc rd rn)) b68).symm
                rw [hw4]
                have hw5 : cv_o (cv_lst (fun s => cv_hold (cv_lu L 6 j s) rc rd rn) v) = cv_o (cv_lst (fun s => cv_hold (cv_lu L 6 j s) rc rd rn) (v + 1)) := by rw [cv_lst_s]; cases cv_lst (fun s => cv_hold (cv_lu L 6 j s) rc rd rn) v with | some z => rfl | none => simp [b68]
                rw [hw5]
                exact ih48 (v + 1) u65 (by omega) hIu65
              · skip
                refine cv_iload C (pc' := 73) rfl (D 39 (71, .iload 4, 2) rfl) (j := 2) rfl ?_
                refine cv_if_neN C (pc' := 76) rfl (by omega) (tgt := 81) (D 40 (73, .ifCond .ne 8, 3) rfl) (by decide) (fun b73 => ?_) (fun b73 => ?_)
                · skip
                  refine cv_iload C (pc' := 83) rfl (D 43 (81, .iload 5, 2) rfl) (j := 1) rfl ?_
                  refine cv_istore C (pc' := 85) rfl (D 44 (83, .istore 5, 2) rfl) (by decide) (lv' := [(5, .int (cv_o (cv_lst (fun s => cv_hold (cv_lu L 6 j s) rc rd rn) v))), (6, .int (nI v)), (4, .int (nI (cv_cnt (fun s => cv_hold (cv_lu L 6 j s) rc rd rn) v))), (0, .ref 0), (1, .int (nI j)), (2, .int (nI w)), (3, .int (nI (L 6 j)))]) rfl ?_
                  refine cv_iincN C (pc' := 88) rfl (D 45 (85, .iinc 4 1, 3) rfl) (j := 2) rfl (by decide) (lv' := [(4, .int (nI ((cv_cnt (fun s => cv_hold (cv_lu L 6 j s) rc rd rn) v) + 1))), (5, .int (cv_o (cv_lst (fun s => cv_hold (cv_lu L 6 j s) rc rd rn) v))), (6, .int (nI v)), (0, .ref 0), (1, .int (nI j)), (2, .int (nI w)), (3, .int (nI (L 6 j)))]) rfl ?_
                  refine cv_iincN C (pc' := 91) rfl (D 46 (88, .iinc 6 1, 3) rfl) (j := 2) rfl (by decide) (lv' := [(6, .int (nI (v + 1))), (4, .int (nI ((cv_cnt (fun s => cv_hold (cv_lu L 6 j s) rc rd rn) v) + 1))), (5, .int (cv_o (cv_lst (fun s => cv_hold (cv_lu L 6 j s) rc rd rn) v))), (0, .ref 0), (1, .int (nI j)), (2, .int (nI w)), (3, .int (nI (L 6 j)))]) rfl ?_
                  refine cv_goto C (tgt := 48) (D 47 (91, .goto (-43), 3) rfl) (by decide) ?_
                  have hw4 : (cv_cnt (fun s => cv_hold (cv_lu L 6 j s) rc rd rn) v) + 1 = cv_cnt (fun s => cv_hold (cv_lu L 6 j s) rc rd rn) (v + 1) := (cv_cnt_t (P := (fun s => cv_hold (cv_lu L 6 j s) rc rd rn)) b68).symm
                  rw [hw4]
                  have hw5 : cv_o (cv_lst (fun s => cv_hold (cv_lu L 6 j s) rc rd rn) v) = cv_o (cv_lst (fun s => cv_hold (cv_lu L 6 j s) rc rd rn) (v + 1)) := by rcases cv_lst_0 (P := (fun s => cv_hold (cv_lu L 6 j s) rc rd rn)) v with h | h; omega; obtain ⟨h1, z, hz⟩ := h; rw [cv_lst_s, hz]
                  rw [hw5]
                  refine cv_pick [0, 2, 1, 3, 4, 5, 6] (lv' := [(6, .int (nI (v + 1))), (5, .int (cv_o (cv_lst (fun s => cv_hold (cv_lu L 6 j s) rc rd rn) (v + 1)))), (4, .int (nI (cv_cnt (fun s => cv_hold (cv_lu L 6 j s) rc rd rn) (v + 1)))), (0, .ref 0), (1, .int (nI j)), (2, .int (nI w)), (3, .int (nI (L 6 j)))]) rfl ?_
                  exact ih48 (v + 1) u65 (by omega) hIu65
                · skip
                  refine cv_iload C (pc' := 78) rfl (D 41 (76, .iload 6, 2) rfl) (j := 0) rfl ?_
                  refine cv_goto C (tgt := 83) (D 42 (78, .goto 5, 3) rfl) (by decide) ?_
                  refine cv_istore C (pc' := 85) rfl (D 44 (83, .istore 5, 2) rfl) (by decide) (lv' := [(5, .int (nI v)), (6, .int (nI v)), (4, .int (nI (cv_cnt (fun s => cv_hold (cv_lu L 6 j s) rc rd rn) v))), (0, .ref 0), (1, .int (nI j)), (2, .int (nI w)), (3, .int (nI (L 6 j)))]) rfl ?_
                  refine cv_iincN C (pc' := 88) rfl (D 45 (85, .iinc 4 1, 3) rfl) (j := 2) rfl (by decide) (lv' := [(4, .int (nI ((cv_cnt (fun s => cv_hold (cv_lu L 6 j s) rc rd rn) v) + 1))), (5, .int (nI v)), (6, .int (nI v)), (0, .ref 0), (1, .int (nI j)), (2, .int (nI w)), (3, .int (nI (L 6 j)))]) rfl ?_
                  refine cv_iincN C (pc' := 91) rfl (D 46 (88, .iinc 6 1, 3) rfl) (j := 2) rfl (by decide) (lv' := [(6, .int (nI (v + 1))), (4, .int (nI ((cv_cnt (fun s => cv_hold (cv_lu L 6 j s) rc rd rn) v) + 1))), (5, .int (nI v)), (0, .ref 0), (1, .int (nI j)), (2, .int (nI w)), (3, .int (nI (L 6 j)))]) rfl ?_
                  refine cv_goto C (tgt := 48) (D 47 (91, .goto (-43), 3) rfl) (by decide) ?_
                  have hw4 : (cv_cnt (fun s => cv_hold (cv_lu L 6 j s) rc rd rn) v) + 1 = cv_cnt (fun s => cv_hold (cv_lu L 6 j s) rc rd rn) (v + 1) := (cv_cnt_t (P := (fun s => cv_hold (cv_lu L 6 j s) rc rd rn)) b68).symm
                  rw [hw4]
                  have hw5 : nI v = cv_o (cv_lst (fun s => cv_hold (cv_lu L 6 j s) rc rd rn) (v + 1)) := by rcases cv_lst_0 (P := (fun s => cv_hold (cv_lu L 6 j s) rc rd rn)) v with h | h; rw [cv_lst_s, h.2]; simp [b68]; rfl; omega
                  rw [hw5]
                  refine cv_pick [0, 2, 1, 3, 4, 5, 6] (lv' := [(6, .int (nI (v + 1))), (5, .int (cv_o (cv_lst (fun s => cv_hold (cv_lu L 6 j s) rc rd rn) (v + 1)))), (4, .int (nI (cv_cnt (fun s => cv_hold (cv_lu L 6 j s) rc rd rn) (v + 1)))), (0, .ref 0), (1, .int (nI j)), (2, .int (nI w)), (3, .int (nI (L 6 j)))]) rfl ?_
                  exact ih48 (v + 1) u65 (by omega) hIu65
        exact LP48 256 0 μ (by decide) (cv_f1_r _ _ μ)
      · skip
        refine cv_bipush C (pc' := 30) rfl (D 15 (28, .bipush (-3), 2) rfl) (v := -3) (by decide) ?_
        exact cv_iret C Rt rfl (D 16 (30, .ireturn, 1) rfl) ⟨congrArg (fun z => some (Value.int z)) (by unfold cv_a_gave; rw [if_pos b4, if_pos b15, if_neg (by omega)]), hR⟩
    · skip
      rw [cv_in_le (n := 1) (by decide)] at b15
      refine cv_bipush C (pc' := 20) rfl (D 10 (18, .bipush (-2), 2) rfl) (v := -2) (by decide) ?_
      exact cv_iret C Rt rfl (D 11 (20, .ireturn, 1) rfl) ⟨congrArg (fun z => some (Value.int z)) (by unfold cv_a_gave; rw [if_pos b4, if_neg (by simp [b15])]), hR⟩
  · skip
    refine cv_iconst C (pc' := 8) rfl (D 3 (7, .iconst (-1), 1) rfl) (v := -1) (by decide) ?_
    exact cv_iret C Rt rfl (D 4 (8, .ireturn, 1) rfl) ⟨congrArg (fun z => some (Value.int z)) (by unfold cv_a_gave; rw [if_neg (by simp [b4])]), hR⟩

