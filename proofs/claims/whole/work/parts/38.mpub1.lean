theorem cv_so_lt {L : cv_L} {x : Int32} {d r t z : Nat} (h : cv_so L x d r t = some z) : z < 8 := cv_dw_lt h
set_option maxHeartbeats 4000000 in
set_option maxRecDepth 100000 in
theorem kX7_soonestOf (L : cv_L) (x : Int32) (d : Nat) (μ : cv_St) (hL : cv_LM L μ) (hB : cv_LB L) (hM : μ 0 13 = x) (hd : d < 8) : cv_Ct yX7_soonestOf cX7_soonestOf 2 (some .int) 4 0 0 17 cv_shM [.ref 0, .int (nI d)] μ (fun v u => v = some (.int (cv_o (cv_so L x d (L 6 1) (L 6 2)))) ∧ cv_fw μ u) := by
  refine cv_enter (own := RX7) (by decide) rfl (Nat.le_of_ble_eq_true rfl) ?_
  intro X a C Rt hRm
  have D := @cv_dec _ _ dkX7_soonestOf
  show cv_At X _ _ μ 0 [(0, .ref 0), (1, .int (nI d))] []
  refine cv_aload_n C (pc' := 1) rfl (D 0 (0, .aload_n 0, 1) rfl) rfl (j := 0) rfl ?_
  refine cv_iload_n C (pc' := 2) rfl (D 1 (1, .iload_n 1, 1) rfl) rfl (j := 1) rfl ?_
  refine cv_callV C (pc' := 5) rfl (k0 := 0) (ci := 7) (As := [.int (nI d)]) (rest := []) (idx := 157) (np := 1) (kX7_makeWheel L x d μ hL hB hM (by omega)) (by decide) rfl rfl rfl (by decide +kernel) rfl wmX7_157 wi_yX7_makeWheel ws_yX7_makeWheel wn_X7 wc_yX7_makeWheel (by decide) (by decide) (D 2 (2, .invokevirtual 157, 3) rfl) (Nat.le_of_ble_eq_true rfl) rfl (fun w2 u2 h2 => ?_)
  obtain ⟨e2, f2, hSu2⟩ := h2
  rw [e2]
  have hLu2 := cv_LM_w f2 hL
  show cv_At X _ _ u2 5 _ []
  refine cv_aload_n C (pc' := 6) rfl (D 3 (5, .aload_n 0, 1) rfl) rfl (j := 0) rfl ?_
  refine cv_get C (pc' := 9) rfl (k0 := 0) (i := 20) (ci := 7) (by decide) rfl rfl (by decide) (o := none) rfl iw_X7 wfX7_139 (D 4 (6, .getfield 139, 3) rfl) (v := .int (cv_o ((cv_mw L x d).2.1))) (congrArg Value.int hSu2.2.1) ?_
  exact cv_iret C Rt rfl (D 5 (9, .ireturn, 1) rfl) ⟨congrArg (fun z => some (Value.int z)) (by rw [cv_soon_eq hB hd]), f2⟩

set_option maxHeartbeats 4000000 in
set_option maxRecDepth 100000 in
theorem kX7_canBy (L : cv_L) (x : Int32) (d f : Nat) (μ : cv_St) (hL : cv_LM L μ) (hB : cv_LB L) (hM : μ 0 13 = x) (hd : d < 8) (hf : f < 8) : cv_Ct yX7_canBy cX7_canBy 4 (some .boolean) 5 0 0 17 cv_shM [.ref 0, .int (nI d), .int (nI f)] μ (fun v u => v = some (.int (cv_b (cv_can L x d f (L 6 1) (L 6 2)))) ∧ cv_fw μ u) := by
  refine cv_enter (own := RX7) (by decide) rfl (Nat.le_of_ble_eq_true rfl) ?_
  intro X a C Rt hRm
  have D := @cv_dec _ _ dkX7_canBy
  show cv_At X _ _ μ 0 [(0, .ref 0), (1, .int (nI d)), (2, .int (nI f))] []
  refine cv_aload_n C (pc' := 1) rfl (D 0 (0, .aload_n 0, 1) rfl) rfl (j := 0) rfl ?_
  refine cv_iload_n C (pc' := 2) rfl (D 1 (1, .iload_n 1, 1) rfl) rfl (j := 1) rfl ?_
  refine cv_callV C (pc' := 5) rfl (k0 := 0) (ci := 7) (As := [.int (nI d)]) (rest := []) (idx := 161) (np := 1) (kX7_soonestOf L x d μ hL hB hM (by omega)) (by decide) rfl rfl rfl (by decide +kernel) rfl wmX7_161 wi_yX7_soonestOf ws_yX7_soonestOf wn_X7 wc_yX7_soonestOf (by decide) (by decide) (D 2 (2, .invokevirtual 161, 3) rfl) (Nat.le_of_ble_eq_true rfl) rfl (fun w2 u2 h2 => ?_)
  obtain ⟨e2, f2⟩ := h2
  rw [e2]
  show cv_At X _ _ u2 5 _ [.int (cv_o (cv_so L x d (L 6 1) (L 6 2)))]
  refine cv_istore_n C (pc' := 6) rfl (D 3 (5, .istore_n 3, 1) rfl) rfl (by decide) (lv' := [(3, .int (cv_o (cv_so L x d (L 6 1) (L 6 2)))), (0, .ref 0), (1, .int (nI d)), (2, .int (nI f))]) rfl ?_
  refine cv_iload_n C (pc' := 7) rfl (D 4 (6, .iload_n 3, 1) rfl) rfl (j := 0) rfl ?_
  refine cv_bipush C (pc' := 9) rfl (D 5 (7, .bipush (-9), 2) rfl) (v := -9) (by decide) ?_
  refine cv_icmp_eqO C (pc' := 12) rfl (fun z h => Nat.lt_trans (cv_so_lt h) (by decide)) (tgt := 21) (D 6 (9, .if_icmp .eq 12, 3) rfl) (by decide) (fun b9 => ?_) (fun z9 b9 => ?_)
  · skip
    refine cv_iconst C (pc' := 22) rfl (D 12 (21, .iconst 0, 1) rfl) (v := nI 0) (by decide) ?_
    exact cv_iret C Rt (by decide) (D 13 (22, .ireturn, 1) rfl) ⟨congrArg (fun z => some (Value.int z)) (by unfold cv_can; rw [b9]; rfl), f2⟩
  · skip
    have ez9 : cv_o (cv_so L x d (L 6 1) (L 6 2)) = nI z9 := by rw [b9]; rfl
    rw [ez9]
    have hz9 := cv_so_lt b9
    refine cv_iload_n C (pc' := 13) rfl (D 7 (12, .iload_n 3, 1) rfl) rfl (j := 0) rfl ?_
    refine cv_iload_n C (pc' := 14) rfl (D 8 (13, .iload_n 2, 1) rfl) rfl (j := 3) rfl ?_
    refine cv_icmp_gtN C (pc' := 17) rfl (by omega) (by omega) (tgt := 21) (D 9 (14, .if_icmp .gt 7, 3) rfl) (by decide) (fun b14 => ?_) (fun b14 => ?_)
    · skip
      refine cv_iconst C (pc' := 22) rfl (D 12 (21, .iconst 0, 1) rfl) (v := nI 0) (by decide) ?_
      exact cv_iret C Rt (by decide) (D 13 (22, .ireturn, 1) rfl) ⟨congrArg (fun z => some (Value.int z)) (by unfold cv_can; rw [b9]; unfold cv_by; dsimp only; rw [decide_eq_false (by omega)]; rfl), f2⟩
    · skip
      refine cv_iconst C (pc' := 18) rfl (D 10 (17, .iconst 1, 1) rfl) (v := nI 1) (by decide) ?_
      refine cv_goto C (tgt := 22) (D 11 (18, .goto 4, 3) rfl) (by decide) ?_
      exact cv_iret C Rt (by decide) (D 13 (22, .ireturn, 1) rfl) ⟨congrArg (fun z => some (Value.int z)) (by unfold cv_can; rw [b9]; unfold cv_by; dsimp only; rw [decide_eq_true (by omega)]; rfl), f2⟩

set_option maxHeartbeats 4000000 in
set_option maxRecDepth 100000 in
theorem kX7_areSo (L : cv_L) (x : Int32) (rc : Nat) (rd : Nat → Nat) (rn : Nat → Option Nat) (μ : cv_St) (hL : cv_LM L μ) (hB : cv_LB L) (hM : μ 0 13 = x) (hD : cv_DM rc rd rn μ) (hDB : cv_DB rc rd rn) : cv_Ct yX7_areSo cX7_areSo 2 (some .boolean) 5 0 0 17 cv_shM [.ref 0] μ (fun v u => v = some (.int (cv_b (cv_ho (fun d => cv_so L x d (L 6 1) (L 6 2)) rc rd rn))) ∧ cv_fw μ u) := by
  refine cv_enter (own := RX7) (by decide) rfl (Nat.le_of_ble_eq_true rfl) ?_
  intro X a C Rt hRm
  have D := @cv_dec _ _ dkX7_areSo
  have hrc := hDB.1
  show cv_At X _ _ μ 0 [(0, .ref 0)] []
  refine cv_iconst C (pc' := 1) rfl (D 0 (0, .iconst 0, 1) rfl) (v := nI 0) (by decide) ?_
  refine cv_istore_n C (pc' := 2) rfl (D 1 (1, .istore_n 1, 1) rfl) rfl (by decide) (lv' := [(1, .int (nI 0)), (0, .ref 0)]) rfl ?_
  have LP2 : ∀ (r : Nat) (k : Nat) (τ : cv_St), (k + r = rc) → (cv_fw μ τ) → (∀ j, j < k → cv_so L x (rd j) (L 6 1) (L 6 2) = rn j) → cv_At X (17, cv_shM, 0, 0, a) 2 τ 2 [(1, .int (nI k)), (0, .ref 0)] [] := by
    intro r
    induction r with
    | zero =>
      intro k τ hr hFτ hI
      have hDτ := cv_DM_k (cv_fw_m hFτ) hD
      refine cv_iload_n C (pc' := 3) rfl (D 2 (2, .iload_n 1, 1) rfl) rfl (j := 0) rfl ?_
      refine cv_aload_n C (pc' := 4) rfl (D 3 (3, .aload_n 0, 1) rfl) rfl (j := 1) rfl ?_
      refine cv_get C (pc' := 7) rfl (k0 := 0) (i := 26) (ci := 7) (by decide) rfl rfl (by decide) (o := none) rfl iw_X7 wfX7_105 (D 4 (4, .getfield 105, 3) rfl) (v := .int (nI rc)) (congrArg Value.int hDτ.1) ?_
      refine cv_icmp_geN C (pc' := 10) rfl (by omega) (by omega) (tgt := 37) (D 5 (7, .if_icmp .ge 30, 3) rfl) (by decide) (fun b7 => ?_) (fun b7 => ?_)
      · skip
        refine cv_iconst C (pc' := 38) rfl (D 21 (37, .iconst 1, 1) rfl) (v := nI 1) (by decide) ?_
        exact cv_iret C Rt (by decide) (D 22 (38, .ireturn, 1) rfl) ⟨congrArg (fun z => some (Value.int z)) (by unfold cv_ho; rw [cv_al_t (fun j hj => decide_eq_true (hI j (by omega)))]; rfl), hFτ⟩
      · skip
        omega
    | succ r ih2 =>
      intro k τ hr hFτ hI
      have hLτ := cv_LM_w hFτ hL
      have hMτ : τ 0 13 = x := by rw [hFτ.2 13 (by decide) (by decide)]; exact hM
      have hDτ := cv_DM_k (cv_fw_m hFτ) hD
      have hk8 := (hDB.2 k (by omega)).1
      refine cv_iload_n C (pc' := 3) rfl (D 2 (2, .iload_n 1, 1) rfl) rfl (j := 0) rfl ?_
      refine cv_aload_n C (pc' := 4) rfl (D 3 (3, .aload_n 0, 1) rfl) rfl (j := 1) rfl ?_
      refine cv_get C (pc' := 7) rfl (k0 := 0) (i := 26) (ci := 7) (by decide) rfl rfl (by decide) (o := none) rfl iw_X7 wfX7_105 (D 4 (4, .getfield 105, 3) rfl) (v := .int (nI rc)) (congrArg Value.int hDτ.1) ?_
      refine cv_icmp_geN C (pc' := 10) rfl (by omega) (by omega) (tgt := 37) (D 5 (7, .if_icmp .ge 30, 3) rfl) (by decide) (fun b7 => ?_) (fun b7 => ?_)
      · skip
        omega
      · skip
        refine cv_aload_n C (pc' := 11) rfl (D 6 (10, .aload_n 0, 1) rfl) rfl (j := 1) rfl ?_
        refine cv_aload_n C (pc' := 12) rfl (D 7 (11, .aload_n 0, 1) rfl) rfl (j := 1) rfl ?_
        refine cv_get C (pc' := 15) rfl (k0 := 0) (i := 27) (ci := 7) (by decide) rfl rfl (by decide) (o := some 15) rfl iw_X7 wfX7_56 (D 8 (12, .getfield 56, 3) rfl) rfl ?_
        refine cv_iload_n C (pc' := 16) rfl (D 9 (15, .iload_n 1, 1) rfl) rfl (j := 0) rfl ?_
        refine cv_iald C (pc' := 17) rfl (k0 := 15) (j := k) (by decide) rfl rfl (by omega) (by decide) (D 10 (16, .iaload, 1) rfl) (v := nI (rd k)) (hDτ.2 _ (by omega)).1 ?_
        refine cv_callV C (pc' := 20) rfl (k0 := 0) (ci := 7) (As := [.int (nI (rd k))]) (rest := []) (idx := 161) (np := 1) (kX7_soonestOf L x (rd k) τ hLτ hB hMτ (by omega)) (by decide) rfl rfl rfl (by decide +kernel) rfl wmX7_161 wi_yX7_soonestOf ws_yX7_soonestOf wn_X7 wc_yX7_soonestOf (by decide) (by decide) (D 11 (17, .invokevirtual 161, 3) rfl) (Nat.le_of_ble_eq_true rfl) rfl (fun w17 u17 h17 => ?_)
        obtain ⟨e17, f17⟩ := h17
        rw [e17]
        have hFu17 : cv_fw μ u17 := cv_fw_t hFτ f17
        have hDu17 := cv_DM_k (cv_fw_m hFu17) hD
        show cv_At X _ _ u17 20 _ [.int (cv_o (cv_so L x (rd k) (L 6 1) (L 6 2)))]
        refine cv_aload_n C (pc' := 21) rfl (D 12 (20, .aload_n 0, 1) rfl) rfl (j := 1) rfl ?_
        refine cv_get C (pc' := 24) rfl (k0 := 0) (i := 28) (ci := 7) (by decide) rfl rfl (by decide) (o := some 16) rfl iw_X7 wfX7_59 (D 13 (21, .getfield 59, 3) rfl) rfl ?_
        refine cv_iload_n C (pc' := 25) rfl (D 14 (24, .iload_n 1, 1) rfl) rfl (j := 0) rfl ?_
        refine cv_iald C (pc' := 26) rfl (k0 := 16) (j := k) (by decide) rfl rfl (by omega) (by decide) (D 15 (25, .iaload, 1) rfl) (v := cv_o (rn k)) (hDu17.2 _ (by omega)).2 ?_
        refine cv_icmp_eq C (pc' := 29) rfl (tgt := 31) (D 16 (26, .if_icmp .eq 5, 3) rfl) (by decide) (fun b26 => ?_) (fun b26 => ?_)
        · skip
          refine cv_iincN C (pc' := 34) rfl (D 19 (31, .iinc 1 1, 3) rfl) (j := 0) rfl (by decide) (lv' := [(1, .int (nI (k + 1))), (0, .ref 0)]) rfl ?_
          refine cv_goto C (tgt := 2) (D 20 (34, .goto (-32), 3) rfl) (by decide) ?_
          exact ih2 (k + 1) u17 (by omega) hFu17 (cv_ex (fun j hj => hI j hj) (cv_o_inj (fun z h => Nat.lt_trans (cv_so_lt h) (by decide)) (fun z h => Nat.lt_trans ((hDB.2 k (by omega)).2 z h) (by decide)) b26))
        · skip
          refine cv_iconst C (pc' := 30) rfl (D 17 (29, .iconst 0, 1) rfl) (v := nI 0) (by decide) ?_
          exact cv_iret C Rt (by decide) (D 18 (30, .ireturn, 1) rfl) ⟨congrArg (fun z => some (Value.int z)) (by unfold cv_ho; rw [cv_al_f (k := k) (by omega) (decide_eq_false (fun h => b26 (congrArg cv_o h)))]; rfl), hFu17⟩
  exact LP2 rc 0 μ (by omega) (cv_fw_r μ) (fun j h => by omega)

set_option maxHeartbeats 4000000 in
set_option maxRecDepth 100000 in
theorem pX7_trace (tr : Int32) (ft : Nat) (sl : Nat → Option (Nat × Nat)) (sc : Nat → Nat → Int32) (L : cv_L) (rc : Nat) (rd : Nat → Nat) (rn : Nat → Option Nat)  (μ : cv_St) (hR : cv_RM tr ft sl sc L rc rd rn μ) (hB : cv_LB L) (hDB : cv_DB rc rd rn) : cv_Ct yX7_trace cX7_trace 1 (some .int) 0 0 0 17 cv_shM [.ref 0] μ (fun v u => v = some (.int (tr)) ∧ cv_RM tr ft sl sc L rc rd rn u) := by
  refine cv_enter (own := RX7) (by decide) rfl (Nat.le_of_ble_eq_true rfl) ?_
  intro X a C Rt hRm
  have D := @cv_dec _ _ dkX7_trace
  obtain ⟨hTr, hFt, hSh, hL, hM, hD⟩ := id hR
  have hn6 := hB.1
  have hrc := hDB.1
  show cv_At X _ _ μ 0 [(0, .ref 0)] []
  refine cv_aload_n C (pc' := 1) rfl (D 0 (0, .aload_n 0, 1) rfl) rfl (j := 0) rfl ?_
  refine cv_get C (pc' := 4) rfl (k0 := 0) (i := 1) (ci := 7) (by decide) rfl rfl (by decide) (o := none) rfl iw_X7 wfX7_200 (D 1 (1, .getfield 200, 3) rfl) (v := .int tr) (congrArg Value.int hTr) ?_
  exact cv_iret C Rt rfl (D 2 (4, .ireturn, 1) rfl) ⟨rfl, hR⟩

set_option maxHeartbeats 4000000 in
set_option maxRecDepth 100000 in
theorem pX7_fault (tr : Int32) (ft : Nat) (sl : Nat → Option (Nat × Nat)) (sc : Nat → Nat → Int32) (L : cv_L) (rc : Nat) (rd : Nat → Nat) (rn : Nat → Option Nat)  (μ : cv_St) (hR : cv_RM tr ft sl sc L rc rd rn μ) (hB : cv_LB L) (hDB : cv_DB rc rd rn) : cv_Ct yX7_fault cX7_fault 1 (some .int) 0 0 0 17 cv_shM [.ref 0] μ (fun v u => v = some (.int (nI ft)) ∧ cv_RM tr ft sl sc L rc rd rn u) := by
  refine cv_enter (own := RX7) (by decide) rfl (Nat.le_of_ble_eq_true rfl) ?_
  intro X a C Rt hRm
  have D := @cv_dec _ _ dkX7_fault
  obtain ⟨hTr, hFt, hSh, hL, hM, hD⟩ := id hR
  have hn6 := hB.1
  have hrc := hDB.1
  show cv_At X _ _ μ 0 [(0, .ref 0)] []
  refine cv_aload_n C (pc' := 1) rfl (D 0 (0, .aload_n 0, 1) rfl) rfl (j := 0) rfl ?_
  refine cv_get C (pc' := 4) rfl (k0 := 0) (i := 0) (ci := 7) (by decide) rfl rfl (by decide) (o := none) rfl iw_X7 wfX7_62 (D 1 (1, .getfield 62, 3) rfl) (v := .int (nI ft)) (congrArg Value.int hFt) ?_
  exact cv_iret C Rt rfl (D 2 (4, .ireturn, 1) rfl) ⟨rfl, hR⟩

set_option maxHeartbeats 4000000 in
set_option maxRecDepth 100000 in
theorem pX7_ofPass (tr : Int32) (ft : Nat) (sl : Nat → Option (Nat × Nat)) (sc : Nat → Nat → Int32) (L : cv_L) (rc : Nat) (rd : Nat → Nat) (rn : Nat → Option Nat) (x y : Int32) (μ : cv_St) (hR : cv_RM tr ft sl sc L rc rd rn μ) (hB : cv_LB L) (hDB : cv_DB rc rd rn) : cv_Ct yX7_ofPass cX7_ofPass 3 (some .int) 2 0 0 17 cv_shM [.ref 0, .int x, .int y] μ (fun v u => v = some (.int (cv_a_ofPass L x y)) ∧ cv_RM tr ft sl sc L rc rd rn u) := by
  refine cv_enter (own := RX7) (by decide) rfl (Nat.le_of_ble_eq_true rfl) ?_
  intro X a C Rt hRm
  have D := @cv_dec _ _ dkX7_ofPass
  obtain ⟨hTr, hFt, hSh, hL, hM, hD⟩ := id hR
  have hn6 := hB.1
  have hrc := hDB.1
  show cv_At X _ _ μ 0 [(0, .ref 0), (1, .int x), (2, .int y)] []
  refine cv_aload_n C (pc' := 1) rfl (D 0 (0, .aload_n 0, 1) rfl) rfl (j := 0) rfl ?_
  refine cv_iload_n C (pc' := 2) rfl (D 1 (1, .iload_n 1, 1) rfl) rfl (j := 1) rfl ?_
  refine cv_callV C (pc' := 5) rfl (k0 := 0) (ci := 7) (As := [.int x]) (rest := []) (idx := 118) (np := 1) (kX7_isPass x L μ hL) (by decide) rfl rfl rfl (by decide +kernel) rfl wmX7_118 wi_yX7_isPass ws_yX7_isPass wn_X7 wc_yX7_isPass (by decide) (by decide) (D 2 (2, .invokevirtual 118, 3) rfl) (Nat.le_of_ble_eq_true rfl) rfl (fun w9 u9 h9 => ?_)
  rw [h9.1, h9.2]
  show cv_At X _ _ μ 5 _ [.int (cv_b (cv_in x (L 7 0)))]
  refine cv_if_neB C (pc' := 8) rfl (tgt := 10) (D 3 (5, .ifCond .ne 5, 3) rfl) (by decide) (fun b5 => ?_) (fun b5 => ?_)
  · skip
    obtain ⟨p, hp, rfl⟩ := cv_in_of b5 (by omega)
    have hp6 : p < 6 := by omega
    refine cv_iload_n C (pc' := 11) rfl (D 6 (10, .iload_n 2, 1) rfl) rfl (j := 2) rfl ?_
    have hy := cv_c6 y
    rcases hy with hy | hy | hy | hy | hy | hy | hy
    · skip
      subst hy
      refine cv_tableIn C (D 7 (11, .tableswitch 78 0 5 #[37, 44, 51, 58, 65, 72], 37) rfl) (tgt := 48) (by decide) (by decide) rfl (by decide) ?_
      refine cv_aload_n C (pc' := 49) rfl (D 8 (48, .aload_n 0, 1) rfl) rfl (j := 0) rfl ?_
      refine cv_get C (pc' := 52) rfl (k0 := 0) (i := 8) (ci := 7) (by decide) rfl rfl (by decide) (o := some 6) rfl iw_X7 wfX7_25 (D 9 (49, .getfield 25, 3) rfl) rfl ?_
      refine cv_iload_n C (pc' := 53) rfl (D 10 (52, .iload_n 1, 1) rfl) rfl (j := 1) rfl ?_
      refine cv_iald C (pc' := 54) rfl (k0 := 6) (j := p) (by decide) rfl rfl (by omega) (by decide) (D 11 (53, .iaload, 1) rfl) (v := nI (L 0 p)) (hL.2.2.2 p hp 0 (by decide)) ?_
      exact cv_iret C Rt rfl (D 12 (54, .ireturn, 1) rfl) ⟨congrArg (fun z => some (Value.int z)) (by unfold cv_a_ofPass; rw [if_pos b5, cv_nt, nI_clamp (show p < 2 ^ 31 by omega)]; rfl), hR⟩
    · skip
      subst hy
      refine cv_tableIn C (D 7 (11, .tableswitch 78 0 5 #[37, 44, 51, 58, 65, 72], 37) rfl) (tgt := 55) (by decide) (by decide) rfl (by decide) ?_
      refine cv_aload_n C (pc' := 56) rfl (D 13 (55, .aload_n 0, 1) rfl) rfl (j := 0) rfl ?_
      refine cv_get C (pc' := 59) rfl (k0 := 0) (i := 9) (ci := 7) (by decide) rfl rfl (by decide) (o := some 7) rfl iw_X7 wfX7_28 (D 14 (56, .getfield 28, 3) rfl) rfl ?_
      refine cv_iload_n C (pc' := 60) rfl (D 15 (59, .iload_n 1, 1) rfl) rfl (j := 1) rfl ?_
      refine cv_iald C (pc' := 61) rfl (k0 := 7) (j := p) (by decide) rfl rfl (by omega) (by decide) (D 16 (60, .iaload, 1) rfl) (v := nI (L 1 p)) (hL.2.2.2 p hp 1 (by decide)) ?_
      exact cv_iret C Rt rfl (D 17 (61, .ireturn, 1) rfl) ⟨congrArg (fun z => some (Value.int z)) (by unfold cv_a_ofPass; rw [if_pos b5, cv_nt, nI_clamp (show p < 2 ^ 31 by omega)]; rfl), hR⟩
    · skip
      subst hy
      refine cv_tableIn C (D 7 (11, .tableswitch 78 0 5 #[37, 44, 51, 58, 65, 72], 37) rfl) (tgt := 62) (by decide) (by decide) rfl (by decide) ?_
      refine cv_aload_n C (pc' := 63) rfl (D 18 (62, .aload_n 0, 1) rfl) rfl (j := 0) rfl ?_
      refine cv_get C (pc' := 66) rfl (k0 := 0) (i := 10) (ci := 7) (by decide) rfl rfl (by decide) (o := some 8) rfl iw_X7 wfX7_31 (D 19 (63, .getfield 31, 3) rfl) rfl ?_
      refine cv_iload_n C (pc' := 67) rfl (D 20 (66, .iload_n 1, 1) rfl) rfl (j := 1) rfl ?_
      refine cv_iald C (pc' := 68) rfl (k0 := 8) (j := p) (by decide) rfl rfl (by omega) (by decide) (D 21 (67, .iaload, 1) rfl) (v := nI (L 2 p)) (hL.2.2.2 p hp 2 (by decide)) ?_
      exact cv_iret C Rt rfl (D 22 (68, .ireturn, 1) rfl) ⟨congrArg (fun z => some (Value.int z)) (by unfold cv_a_ofPass; rw [if_pos b5, cv_nt, nI_clamp (show p < 2 ^ 31 by omega)]; rfl), hR⟩
    · skip
      subst hy
      refine cv_tableIn C (D 7 (11, .tableswitch 78 0 5 #[37, 44, 51, 58, 65, 72], 37) rfl) (tgt := 69) (by decide) (by decide) rfl (by decide) ?_
      refine cv_aload_n C (pc' := 70) rfl (D 23 (69, .aload_n 0, 1) rfl) rfl (j := 0) rfl ?_
      refine cv_get C (pc' := 73) rfl (k0 := 0) (i := 11) (ci := 7) (by decide) rfl rfl (by decide) (o := some 9) rfl iw_X7 wfX7_34 (D 24 (70, .getfield 34, 3) rfl) rfl ?_
      refine cv_iload_n C (pc' := 74) rfl (D 25 (73, .iload_n 1, 1) rfl) rfl (j := 1) rfl ?_
      refine cv_iald C (pc' := 75) rfl (k0 := 9) (j := p) (by decide) rfl rfl (by omega) (by decide) (D 26 (74, .iaload, 1) rfl) (v := nI (L 3 p)) (hL.2.2.2 p hp 3 (by decide)) ?_
      exact cv_iret C Rt rfl (D 27 (75, .ireturn, 1) rfl) ⟨congrArg (fun z => some (Value.int z)) (by unfold cv_a_ofPass; rw [if_pos b5, cv_nt, nI_clamp (show p < 2 ^ 31 by omega)]; rfl), hR⟩
    · skip
      subst hy
      refine cv_tableIn C (D 7 (11, .tableswitch 78 0 5 #[37, 44, 51, 58, 65, 72], 37) rfl) (tgt := 76) (by decide) (by decide) rfl (by decide) ?_
      refine cv_aload_n C (pc' := 77) rfl (D 28 (76, .aload_n 0, 1) rfl) rfl (j := 0) rfl ?_
      refine cv_get C (pc' := 80) rfl (k0 := 0) (i := 12) (ci := 7) (by decide) rfl rfl (by decide) (o := some 10) rfl iw_X7 wfX7_37 (D 29 (77, .getfield 37, 3) rfl) rfl ?_
      refine cv_iload_n C (pc' := 81) rfl (D 30 (80, .iload_n 1, 1) rfl) rfl (j := 1) rfl ?_
      refine cv_iald C (pc' := 82) rfl (k0 := 10) (j := p) (by decide) rfl rfl (by omega) (by decide) (D 31 (81, .iaload, 1) rfl) (v := nI (L 4 p)) (hL.2.2.2 p hp 4 (by decide)) ?_
      exact cv_iret C Rt rfl (D 32 (82, .ireturn, 1) rfl) ⟨congrArg (fun z => some (Value.int z)) (by unfold cv_a_ofPass; rw [if_pos b5, cv_nt, nI_clamp (show p < 2 ^ 31 by omega)]; rfl), hR⟩
    · skip
      subst hy
      refine cv_tableIn C (D 7 (11, .tableswitch 78 0 5 #[37, 44, 51, 58, 65, 72], 37) rfl) (tgt := 83) (by decide) (by decide) rfl (by decide) ?_
      refine cv_aload_n C (pc' := 84) rfl (D 33 (83, .aload_n 0, 1) rfl) rfl (j := 0) rfl ?_
      refine cv_iload_n C (pc' := 85) rfl (D 34 (84, .iload_n 1, 1) rfl) rfl (j := 1) rfl ?_
      refine cv_callV C (pc' := 88) rfl (k0 := 0) (ci := 7) (As := [.int (nI p)]) (rest := []) (idx := 121) (np := 1) (kX7_takes L p μ hL hB hp) (by decide) rfl rfl rfl (by decide +kernel) rfl wmX7_121 wi_yX7_takes ws_yX7_takes wn_X7 wc_yX7_takes (by decide) (by decide) (D 35 (85, .invokevirtual 121, 3) rfl) (Nat.le_of_ble_eq_true rfl) rfl (fun w9 u9 h9 => ?_)
      rw [h9.1, h9.2]
      show cv_At X _ _ μ 88 _ [.int (nI (cv_tk L p))]
      exact cv_iret C Rt rfl (D 36 (88, .ireturn, 1) rfl) ⟨congrArg (fun z => some (Value.int z)) (by unfold cv_a_ofPass; rw [if_pos b5, cv_nt, nI_clamp (show p < 2 ^ 31 by omega)]; rfl), hR⟩
    · skip
      refine cv_tableOut C (D 7 (11, .tableswitch 78 0 5 #[37, 44, 51, 58, 65, 72], 37) rfl) (tgt := 89) hy (by decide) ?_
      refine cv_bipush C (pc' := 91) rfl (D 37 (89, .bipush (-2), 2) rfl) (v := -2) (by decide) ?_
      exact cv_iret C Rt rfl (D 38 (91, .ireturn, 1) rfl) ⟨congrArg (fun z => some (Value.int z)) (by unfold cv_a_ofPass; rw [if_pos b5]; simp [cv_c6n hy]), hR⟩
  · skip
    refine cv_iconst C (pc' := 9) rfl (D 4 (8, .iconst (-1), 1) rfl) (v := -1) (by decide) ?_
    exact cv_iret C Rt rfl (D 5 (9, .ireturn, 1) rfl) ⟨congrArg (fun z => some (Value.int z)) (by unfold cv_a_ofPass; rw [b5]; rfl), hR⟩

theorem cv_RM_L {tr : Int32} {ft : Nat} {sl : Nat → Option (Nat × Nat)} {sc : Nat → Nat → Int32} {L L' : cv_L} {rc : Nat} {rd : Nat → Nat} {rn : Nat → Option Nat} {μ u : cv_St} (h : ∀ k, k < 4 ∨ 15 ≤ k → u k = μ k) (hL : cv_LM L' u) (hR : cv_RM tr ft sl sc L rc rd rn μ) : cv_RM tr ft sl sc L' rc rd rn u := by
  obtain ⟨h1, h2, h3, h4, h5, h6⟩ := hR
  refine ⟨by rw [h 0 (by decide)]; exact h1, by rw [h 0 (by decide)]; exact h2, fun k hk => by rw [h 1 (by decide), h 2 (by decide), h 3 (by decide)]; exact h3 k hk, hL, by rw [h 0 (by decide)]; exact h5, ⟨by rw [h 0 (by decide)]; exact h6.1, fun k hk => by rw [h 15 (by decide), h 16 (by decide)]; exact h6.2 k hk⟩⟩
theorem cv_LM_snow {L : cv_L} {μ : cv_St} (hL : cv_LM L μ) (j v : Nat) : cv_LM (cv_lu L 5 j v) (cv_u μ 4 j (nI v)) := by
  refine ⟨by rw [cv_u_c (by decide), cv_lu_k (by decide)]; exact hL.1, fun d hd => ?_, fun w hw => by rw [cv_u_c (by decide), cv_lu_k (by decide)]; exact hL.2.2.1 w hw, fun p hp i hi => by rw [cv_lu_k (by decide)] at hp; rw [cv_u_c (by omega), cv_lu_k (by omega)]; exact hL.2.2.2 p hp i hi⟩
  by_cases e : d = j
  · rw [e, cv_u_s, cv_lu_s]
  · rw [cv_u_i e, cv_lu_i e]; exact hL.2.1 d hd
theorem cv_LM_give {L : cv_L} {μ : cv_St} (hL : cv_LM L μ) (j v : Nat) : cv_LM (cv_lu L 6 j v) (cv_u μ 5 j (nI v)) := by
  refine ⟨by rw [cv_u_c (by decide), cv_lu_k (by decide)]; exact hL.1, fun d hd => by rw [cv_u_c (by decide), cv_lu_k (by decide)]; exact hL.2.1 d hd, fun w hw => ?_, fun p hp i hi => by rw [cv_lu_k (by decide)] at hp; rw [cv_u_c (by omega), cv_lu_k (by omega)]; exact hL.2.2.2 p hp i hi⟩
  by_cases e : w = j
  · rw [e, cv_u_s, cv_lu_s]
  · rw [cv_u_i e, cv_lu_i e]; exact hL.2.2.1 w hw
theorem cv_LM_pass {L : cv_L} {μ : cv_St} (hL : cv_LM L μ) {i : Nat} (hi : i < 5) (j v : Nat) : cv_LM (cv_lu L i j v) (cv_u μ (6 + i) j (nI v)) := by
  refine ⟨by rw [cv_u_c (by omega), cv_lu_k (by omega)]; exact hL.1, fun d hd => by rw [cv_u_c (by omega), cv_lu_k (by omega)]; exact hL.2.1 d hd, fun w hw => by rw [cv_u_c (by omega), cv_lu_k (by omega)]; exact hL.2.2.1 w hw, fun p hp k hk => ?_⟩
  rw [cv_lu_k (by omega)] at hp
  by_cases e : k = i
  · subst e
    by_cases e2 : p = j
    · rw [e2, cv_u_s, cv_lu_s]
    · rw [cv_u_i e2, cv_lu_i e2]; exact hL.2.2.2 p hp k hk
  · rw [cv_u_c (by omega), cv_lu_k e]; exact hL.2.2.2 p hp k hk
theorem cv_in_10 {y : Int32} : decide (nI 0 ≤ y ∧ y ≤ nI 9) = cv_in y 10 := cv_in_le (n := 9) (by decide)
set_option maxHeartbeats 4000000 in
set_option maxRecDepth 100000 in
theorem pX7_snow (tr : Int32) (ft : Nat) (sl : Nat → Option (Nat × Nat)) (sc : Nat → Nat → Int32) (L : cv_L) (rc : Nat) (rd : Nat → Nat) (rn : Nat → Option Nat) (x y : Int32) (μ : cv_St) (hR : cv_RM tr ft sl sc L rc rd rn μ) (hB : cv_LB L) (hDB : cv_DB rc rd rn) : cv_Ct yX7_snow cX7_snow 4 (some .int) 2 0 0 17 cv_shM [.ref 0, .int x, .int y] μ (fun v u => v = some (.int (cv_a_snow L x y)) ∧ cv_RM tr ft sl sc (cv_n_snow L x y) rc rd rn u) := by
  refine cv_enter (own := RX7) (by decide) rfl (Nat.le_of_ble_eq_true rfl) ?_
  intro X a C Rt hRm
  have D := @cv_dec _ _ dkX7_snow
  obtain ⟨hTr, hFt, hSh, hL, hM, hD⟩ := id hR
  have hn6 := hB.1
  have hrc := hDB.1
  show cv_At X _ _ μ 0 [(0, .ref 0), (1, .int x), (2, .int y)] []
  refine cv_iload_n C (pc' := 1) rfl (D 0 (0, .iload_n 1, 1) rfl) rfl (j := 1) rfl ?_
  refine cv_callS C (pc' := 4) rfl (As := [.int x]) (rest := []) (idx := 124) (np := 1) (kX7_isDay x μ) (by decide +kernel) rfl wmX7_124 wt_yX7_isDay wn_X7 wc_yX7_isDay (by decide) (by decide) (D 1 (1, .invokestatic 124, 3) rfl) (Nat.le_of_ble_eq_true rfl) rfl (fun w9 u9 h9 => ?_)
  rw [h9.1, h9.2]
  show cv_At X _ _ μ 4 _ [.int (cv_b (cv_in x 8))]
  refine cv_if_eqB C (pc' := 7) rfl (tgt := 17) (D 2 (4, .ifCond .eq 13, 3) rfl) (by decide) (fun b4 => ?_) (fun b4 => ?_)
  · skip
    refine cv_bipush C (pc' := 19) rfl (D 8 (17, .bipush (-2), 2) rfl) (v := -2) (by decide) ?_
    exact cv_iret C Rt rfl (D 9 (19, .ireturn, 1) rfl) ⟨congrArg (fun z => some (Value.int z)) (by unfold cv_a_snow; rw [if_neg (by simp [b4])]), by unfold cv_n_snow; rw [if_neg (by simp [b4])]; exact hR⟩
  · skip
    refine cv_iload_n C (pc' := 8) rfl (D 3 (7, .iload_n 2, 1) rfl) rfl (j := 2) rfl ?_
    refine cv_iconst C (pc' := 9) rfl (D 4 (8, .iconst 0, 1) rfl) (v := nI 0) (by decide) ?_
    refine cv_bipush C (pc' := 11) rfl (D 5 (9, .bipush 9, 2) rfl) (v := nI 9) (by decide) ?_
    refine cv_callS C (pc' := 14) rfl (As := [.int y, .int (nI 0), .int (nI 9)]) (rest := []) (idx := 67) (np := 3) (kX7_within y (nI 0) (nI 9) μ) (by decide +kernel) rfl wmX7_67 wt_yX7_within wn_X7 wc_yX7_within (by decide) (by decide) (D 6 (11, .invokestatic 67, 3) rfl) (Nat.le_of_ble_eq_true rfl) rfl (fun w9 u9 h9 => ?_)
    rw [h9.1, h9.2]
    show cv_At X _ _ μ 14 _ [.int (cv_b (decide ((nI 0) ≤ y ∧ y ≤ (nI 9))))]
    refine cv_if_neB C (pc' := 17) rfl (tgt := 20) (D 7 (14, .ifCond .ne 6, 3) rfl) (by decide) (fun b14 => ?_) (fun b14 => ?_)
    · skip
      rw [cv_in_10] at b14
      obtain ⟨j, hj, rfl⟩ := cv_in_of b4 (by omega)
      obtain ⟨w, hw, rfl⟩ := cv_in_of b14 (by omega)
      refine cv_aload_n C (pc' := 21) rfl (D 10 (20, .aload_n 0, 1) rfl) rfl (j := 0) rfl ?_
      refine cv_get C (pc' := 24) rfl (k0 := 0) (i := 5) (ci := 7) (by decide) rfl rfl (by decide) (o := none) rfl iw_X7 wfX7_71 (D 11 (21, .getfield 71, 3) rfl) (v := .int (nI (L 7 0))) (congrArg Value.int hL.1) ?_
      refine cv_if_neN C (pc' := 27) rfl (by omega) (tgt := 30) (D 12 (24, .ifCond .ne 6, 3) rfl) (by decide) (fun b24 => ?_) (fun b24 => ?_)
      · skip
        refine cv_aload_n C (pc' := 31) rfl (D 15 (30, .aload_n 0, 1) rfl) rfl (j := 0) rfl ?_
        refine cv_get C (pc' := 34) rfl (k0 := 0) (i := 6) (ci := 7) (by decide) rfl rfl (by decide) (o := some 4) rfl iw_X7 wfX7_19 (D 16 (31, .getfield 19, 3) rfl) rfl ?_
        refine cv_iload_n C (pc' := 35) rfl (D 17 (34, .iload_n 1, 1) rfl) rfl (j := 1) rfl ?_
        refine cv_iald C (pc' := 36) rfl (k0 := 4) (j := j) (by decide) rfl rfl (by omega) (by decide) (D 18 (35, .iaload, 1) rfl) (v := nI (L 5 j)) (hL.2.1 _ (by omega)) ?_
        refine cv_istore_n C (pc' := 37) rfl (D 19 (36, .istore_n 3, 1) rfl) rfl (by decide) (lv' := [(3, .int (nI (L 5 j))), (0, .ref 0), (1, .int (nI j)), (2, .int (nI w))]) rfl ?_
        refine cv_aload_n C (pc' := 38) rfl (D 20 (37, .aload_n 0, 1) rfl) rfl (j := 1) rfl ?_
        refine cv_get C (pc' := 41) rfl (k0 := 0) (i := 6) (ci := 7) (by decide) rfl rfl (by decide) (o := some 4) rfl iw_X7 wfX7_19 (D 21 (38, .getfield 19, 3) rfl) rfl ?_
        refine cv_iload_n C (pc' := 42) rfl (D 22 (41, .iload_n 1, 1) rfl) rfl (j := 2) rfl ?_
        refine cv_iload_n C (pc' := 43) rfl (D 23 (42, .iload_n 2, 1) rfl) rfl (j := 3) rfl ?_
        refine cv_iast C (pc' := 44) rfl (k0 := 4) (j := j) (by decide) rfl rfl (by omega) (by decide) (D 24 (43, .iastore, 1) rfl) ?_
        refine cv_iload_n C (pc' := 45) rfl (D 25 (44, .iload_n 3, 1) rfl) rfl (j := 0) rfl ?_
        exact cv_iret C Rt rfl (D 26 (45, .ireturn, 1) rfl) ⟨congrArg (fun z => some (Value.int z)) (by unfold cv_a_snow; rw [if_pos ⟨b4, b14⟩, if_pos (by omega), cv_nt, nI_clamp (by omega)]), by unfold cv_n_snow; rw [if_pos ⟨b4, b14, by omega⟩, cv_nt, nI_clamp (by omega), cv_nt, nI_clamp (by omega)]; exact cv_RM_L (fun k hk => cv_u_c (by omega)) (cv_LM_snow hL j w) hR⟩
      · skip
        refine cv_bipush C (pc' := 29) rfl (D 13 (27, .bipush (-3), 2) rfl) (v := -3) (by decide) ?_
        exact cv_iret C Rt rfl (D 14 (29, .ireturn, 1) rfl) ⟨congrArg (fun z => some (Value.int z)) (by unfold cv_a_snow; rw [if_pos ⟨b4, b14⟩, if_neg (by omega)]), by unfold cv_n_snow; rw [if_neg (fun h => by omega)]; exact hR⟩
    · skip
      refine cv_bipush C (pc' := 19) rfl (D 8 (17, .bipush (-2), 2) rfl) (v := -2) (by decide) ?_
      exact cv_iret C Rt rfl (D 9 (19, .ireturn, 1) rfl) ⟨congrArg (fun z => some (Value.int z)) (by rw [cv_in_10] at b14; unfold cv_a_snow; rw [if_neg (by simp [b14])]), by rw [cv_in_10] at b14; unfold cv_n_snow; rw [if_neg (by simp [b14])]; exact hR⟩

theorem cv_in_256 {y : Int32} : decide (nI 0 ≤ y ∧ y ≤ nI 255) = cv_in y 256 := cv_in_le (n := 255) (by decide)
set_option maxHeartbeats 4000000 in
set_option maxRecDepth 100000 in
theorem pX7_give (tr : Int32) (ft : Nat) (sl : Nat → Option (Nat × Nat)) (sc : Nat → Nat → Int32) (L : cv_L) (rc : Nat) (rd : Nat → Nat) (rn : Nat → Option Nat) (x y : Int32) (μ : cv_St) (hR : cv_RM tr ft sl sc L rc rd rn μ) (hB : cv_LB L) (hDB : cv_DB rc rd rn) : cv_Ct yX7_give cX7_give 4 (some .int) 2 0 0 17 cv_shM [.ref 0, .int x, .int y] μ (fun v u => v = some (.int (cv_a_give L x y)) ∧ cv_RM tr ft sl sc (cv_n_give L x y) rc rd rn u) := by
  refine cv_enter (own := RX7) (by decide) rfl (Nat.le_of_ble_eq_true rfl) ?_
  intro X a C Rt hRm
  have D := @cv_dec _ _ dkX7_give
  obtain ⟨hTr, hFt, hSh, hL, hM, hD⟩ := id hR
  have hn6 := hB.1
  have hrc := hDB.1
  show cv_At X _ _ μ 0 [(0, .ref 0), (1, .int x), (2, .int y)] []
  refine cv_iload_n C (pc' := 1) rfl (D 0 (0, .iload_n 1, 1) rfl) rfl (j := 1) rfl ?_
  refine cv_callS C (pc' := 4) rfl (As := [.int x]) (rest := []) (idx := 127) (np := 1) (kX7_isValley x μ) (by decide +kernel) rfl wmX7_127 wt_yX7_isValley wn_X7 wc_yX7_isValley (by decide) (by decide) (D 1 (1, .invokestatic 127, 3) rfl) (Nat.le_of_ble_eq_true rfl) rfl (fun w9 u9 h9 => ?_)
  rw [h9.1, h9.2]
  show cv_At X _ _ μ 4 _ [.int (cv_b (cv_in x 3))]
  refine cv_if_neB C (pc' := 7) rfl (tgt := 9) (D 2 (4, .ifCond .ne 5, 3) rfl) (by decide) (fun b4 => ?_) (fun b4 => ?_)
  · skip
    refine cv_iload_n C (pc' := 10) rfl (D 5 (9, .iload_n 2, 1) rfl) rfl (j := 2) rfl ?_
    refine cv_iconst C (pc' := 11) rfl (D 6 (10, .iconst 0, 1) rfl) (v := nI 0) (by decide) ?_
    refine cv_sipush C (pc' := 14) rfl (D 7 (11, .sipush 255, 3) rfl) (v := nI 255) (by decide) ?_
    refine cv_callS C (pc' := 17) rfl (As := [.int y, .int (nI 0), .int (nI 255)]) (rest := []) (idx := 67) (np := 3) (kX7_within y (nI 0) (nI 255) μ) (by decide +kernel) rfl wmX7_67 wt_yX7_within wn_X7 wc_yX7_within (by decide) (by decide) (D 8 (14, .invokestatic 67, 3) rfl) (Nat.le_of_ble_eq_true rfl) rfl (fun w9 u9 h9 => ?_)
    rw [h9.1, h9.2]
    show cv_At X _ _ μ 17 _ [.int (cv_b (decide ((nI 0) ≤ y ∧ y ≤ (nI 255))))]
    refine cv_if_neB C (pc' := 20) rfl (tgt := 23) (D 9 (17, .ifCond .ne 6, 3) rfl) (by decide) (fun b17 => ?_) (fun b17 => ?_)
    · skip
      rw [cv_in_256] at b17
      obtain ⟨j, hj, rfl⟩ := cv_in_of b4 (by omega)
      obtain ⟨w, hw, rfl⟩ := cv_in_of b17 (by omega)
      refine cv_aload_n C (pc' := 24) rfl (D 12 (23, .aload_n 0, 1) rfl) rfl (j := 0) rfl ?_
      refine cv_get C (pc' := 27) rfl (k0 := 0) (i := 5) (ci := 7) (by decide) rfl rfl (by decide) (o := none) rfl iw_X7 wfX7_71 (D 13 (24, .getfield 71, 3) rfl) (v := .int (nI (L 7 0))) (congrArg Value.int hL.1) ?_
      refine cv_if_neN C (pc' := 30) rfl (by omega) (tgt := 33) (D 14 (27, .ifCond .ne 6, 3) rfl) (by decide) (fun b27 => ?_) (fun b27 => ?_)
      · skip
        refine cv_aload_n C (pc' := 34) rfl (D 17 (33, .aload_n 0, 1) rfl) rfl (j := 0) rfl ?_
        refine cv_get C (pc' := 37) rfl (k0 := 0) (i := 7) (ci := 7) (by decide) rfl rfl (by decide) (o := some 5) rfl iw_X7 wfX7_22 (D 18 (34, .getfield 22, 3) rfl) rfl ?_
        refine cv_iload_n C (pc' := 38) rfl (D 19 (37, .iload_n 1, 1) rfl) rfl (j := 1) rfl ?_
        refine cv_iald C (pc' := 39) rfl (k0 := 5) (j := j) (by decide) rfl rfl (by omega) (by decide) (D 20 (38, .iaload, 1) rfl) (v := nI (L 6 j)) (hL.2.2.1 _ (by omega)) ?_
        refine cv_istore_n C (pc' := 40) rfl (D 21 (39, .istore_n 3, 1) rfl) rfl (by decide) (lv' := [(3, .int (nI (L 6 j))), (0, .ref 0), (1, .int (nI j)), (2, .int (nI w))]) rfl ?_
        refine cv_aload_n C (pc' := 41) rfl (D 22 (40, .aload_n 0, 1) rfl) rfl (j := 1) rfl ?_
        refine cv_get C (pc' := 44) rfl (k0 := 0) (i := 7) (ci := 7) (by decide) rfl rfl (by decide) (o := some 5) rfl iw_X7 wfX7_22 (D 23 (41, .getfield 22, 3) rfl) rfl ?_
        refine cv_iload_n C (pc' := 45) rfl (D 24 (44, .iload_n 1, 1) rfl) rfl (j := 2) rfl ?_
        refine cv_iload_n C (pc' := 46) rfl (D 25 (45, .iload_n 2, 1) rfl) rfl (j := 3) rfl ?_
        refine cv_iast C (pc' := 47) rfl (k0 := 5) (j := j) (by decide) rfl rfl (by omega) (by decide) (D 26 (46, .iastore, 1) rfl) ?_
        refine cv_iload_n C (pc' := 48) rfl (D 27 (47, .iload_n 3, 1) rfl) rfl (j := 0) rfl ?_
        exact cv_iret C Rt rfl (D 28 (48, .ireturn, 1) rfl) ⟨congrArg (fun z => some (Value.int z)) (by unfold cv_a_give; rw [if_pos b4, if_pos b17, if_pos (by omega), cv_nt, nI_clamp (by omega)]), by unfold cv_n_give; rw [if_pos ⟨b4, b17, by omega⟩, cv_nt, nI_clamp (by omega), cv_nt, nI_clamp (by omega)]; exact cv_RM_L (fun k hk => cv_u_c (by omega)) (cv_LM_give hL j w) hR⟩
      · skip
        refine cv_bipush C (pc' := 32) rfl (D 15 (30, .bipush (-3), 2) rfl) (v := -3) (by decide) ?_
        exact cv_iret C Rt rfl (D 16 (32, .ireturn, 1) rfl) ⟨congrArg (fun z => some (Value.int z)) (by unfold cv_a_give; rw [if_pos b4, if_pos b17, if_neg (by omega)]), by unfold cv_n_give; rw [if_neg (fun h => by omega)]; exact hR⟩
    · skip
      refine cv_bipush C (pc' := 22) rfl (D 10 (20, .bipush (-2), 2) rfl) (v := -2) (by decide) ?_
      exact cv_iret C Rt rfl (D 11 (22, .ireturn, 1) rfl) ⟨congrArg (fun z => some (Value.int z)) (by rw [cv_in_256] at b17; unfold cv_a_give; rw [if_pos b4, if_neg (by simp [b17])]), by rw [cv_in_256] at b17; unfold cv_n_give; rw [if_neg (by simp [b17])]; exact hR⟩
  · skip
    refine cv_iconst C (pc' := 8) rfl (D 3 (7, .iconst (-1), 1) rfl) (v := -1) (by decide) ?_
    exact cv_iret C Rt rfl (D 4 (8, .ireturn, 1) rfl) ⟨congrArg (fun z => some (Value.int z)) (by unfold cv_a_give; rw [if_neg (by simp [b4])]), by unfold cv_n_give; rw [if_neg (by simp [b4])]; exact hR⟩

set_option maxHeartbeats 4000000 in
set_option maxRecDepth 100000 in
theorem pX7_open (tr : Int32) (ft : Nat) (sl : Nat → Option (Nat × Nat)) (sc : Nat → Nat → Int32) (L : cv_L) (rc : Nat) (rd : Nat → Nat) (rn : Nat → Option Nat) (x : Int32) (μ : cv_St) (hR : cv_RM tr ft sl sc L rc rd rn μ) (hB : cv_LB L) (hDB : cv_DB rc rd rn) : cv_Ct yX7_open cX7_open 4 (some .int) 2 0 0 17 cv_shM [.ref 0, .int x] μ (fun v u => v = some (.int (cv_a_open L x)) ∧ cv_RM tr ft sl sc L rc rd rn u) := by
  refine cv_enter (own := RX7) (by decide) rfl (Nat.le_of_ble_eq_true rfl) ?_
  intro X a C Rt hRm
  have D := @cv_dec _ _ dkX7_open
  obtain ⟨hTr, hFt, hSh, hL, hM, hD⟩ := id hR
  have hn6 := hB.1
  have hrc := hDB.1
  show cv_At X _ _ μ 0 [(0, .ref 0), (1, .int x)] []
  refine cv_iload_n C (pc' := 1) rfl (D 0 (0, .iload_n 1, 1) rfl) rfl (j := 1) rfl ?_
  refine cv_callS C (pc' := 4) rfl (As := [.int x]) (rest := []) (idx := 124) (np := 1) (kX7_isDay x μ) (by decide +kernel) rfl wmX7_124 wt_yX7_isDay wn_X7 wc_yX7_isDay (by decide) (by decide) (D 1 (1, .invokestatic 124, 3) rfl) (Nat.le_of_ble_eq_true rfl) rfl (fun w9 u9 h9 => ?_)
  rw [h9.1, h9.2]
  show cv_At X _ _ μ 4 _ [.int (cv_b (cv_in x 8))]
  refine cv_if_neB C (pc' := 7) rfl (tgt := 10) (D 2 (4, .ifCond .ne 6, 3) rfl) (by decide) (fun b4 => ?_) (fun b4 => ?_)
  · skip
    obtain ⟨j, hj, rfl⟩ := cv_in_of b4 (by omega)
    refine cv_aload_n C (pc' := 11) rfl (D 5 (10, .aload_n 0, 1) rfl) rfl (j := 0) rfl ?_
    refine cv_get C (pc' := 14) rfl (k0 := 0) (i := 5) (ci := 7) (by decide) rfl rfl (by decide) (o := none) rfl iw_X7 wfX7_71 (D 6 (11, .getfield 71, 3) rfl) (v := .int (nI (L 7 0))) (congrArg Value.int hL.1) ?_
    refine cv_if_neN C (pc' := 17) rfl (by omega) (tgt := 20) (D 7 (14, .ifCond .ne 6, 3) rfl) (by decide) (fun b14 => ?_) (fun b14 => ?_)
    · skip
      refine cv_iconst C (pc' := 21) rfl (D 10 (20, .iconst 0, 1) rfl) (v := nI 0) (by decide) ?_
      refine cv_istore_n C (pc' := 22) rfl (D 11 (21, .istore_n 2, 1) rfl) rfl (by decide) (lv' := [(2, .int (nI 0)), (0, .ref 0), (1, .int (nI j))]) rfl ?_
      refine cv_iconst C (pc' := 23) rfl (D 12 (22, .iconst 0, 1) rfl) (v := nI 0) (by decide) ?_
      refine cv_istore_n C (pc' := 24) rfl (D 13 (23, .istore_n 3, 1) rfl) rfl (by decide) (lv' := [(3, .int (nI 0)), (2, .int (nI 0)), (0, .ref 0), (1, .int (nI j))]) rfl ?_
      refine cv_pick [0, 1, 2, 3] (lv' := [(3, .int (nI 0)), (2, .int (nI (cv_sb (fun p => cv_op L p j) 0))), (0, .ref 0), (1, .int (nI j))]) rfl ?_
      have LP24 : ∀ (r : Nat) (p : Nat), (p + r = L 7 0) → cv_At X (17, cv_shM, 0, 0, a) 4 μ 24 [(3, .int (nI p)), (2, .int (nI (cv_sb (fun p => cv_op L p j) p))), (0, .ref 0), (1, .int (nI j))] [] := by
        intro r
        induction r with
        | zero =>
          intro p hr
          refine cv_iload_n C (pc' := 25) rfl (D 14 (24, .iload_n 3, 1) rfl) rfl (j := 0) rfl ?_
          refine cv_aload_n C (pc' := 26) rfl (D 15 (25, .aload_n 0, 1) rfl) rfl (j := 2) rfl ?_
          refine cv_get C (pc' := 29) rfl (k0 := 0) (i := 5) (ci := 7) (by decide) rfl rfl (by decide) (o := none) rfl iw_X7 wfX7_71 (D 16 (26, .getfield 71, 3) rfl) (v := .int (nI (L 7 0))) (congrArg Value.int hL.1) ?_
          refine cv_icmp_geN C (pc' := 32) rfl (by omega) (by omega) (tgt := 57) (D 17 (29, .if_icmp .ge 28, 3) rfl) (by decide) (fun b29 => ?_) (fun b29 => ?_)
          · skip
            refine cv_iload_n C (pc' := 58) rfl (D 33 (57, .iload_n 2, 1) rfl) rfl (j := 1) rfl ?_
            exact cv_iret C Rt rfl (D 34 (58, .ireturn, 1) rfl) ⟨congrArg (fun z => some (Value.int z)) (by unfold cv_a_open cv_day; rw [if_pos b4, if_pos (by omega), cv_nt, nI_clamp (by omega)]; rw [show p = L 7 0 by omega]), hR⟩
          · skip
            omega
        | succ r ih24 =>
          intro p hr
          have hp : p < L 7 0 := by omega
          have hp6 : p < 6 := by omega
          refine cv_iload_n C (pc' := 25) rfl (D 14 (24, .iload_n 3, 1) rfl) rfl (j := 0) rfl ?_
          refine cv_aload_n C (pc' := 26) rfl (D 15 (25, .aload_n 0, 1) rfl) rfl (j := 2) rfl ?_
          refine cv_get C (pc' := 29) rfl (k0 := 0) (i := 5) (ci := 7) (by decide) rfl rfl (by decide) (o := none) rfl iw_X7 wfX7_71 (D 16 (26, .getfield 71, 3) rfl) (v := .int (nI (L 7 0))) (congrArg Value.int hL.1) ?_
          refine cv_icmp_geN C (pc' := 32) rfl (by omega) (by omega) (tgt := 57) (D 17 (29, .if_icmp .ge 28, 3) rfl) (by decide) (fun b29 => ?_) (fun b29 => ?_)
          · skip
            omega
          · skip
            refine cv_iload_n C (pc' := 33) rfl (D 18 (32, .iload_n 2, 1) rfl) rfl (j := 1) rfl ?_
            refine cv_aload_n C (pc' := 34) rfl (D 19 (33, .aload_n 0, 1) rfl) rfl (j := 2) rfl ?_
            refine cv_iload_n C (pc' := 35) rfl (D 20 (34, .iload_n 3, 1) rfl) rfl (j := 0) rfl ?_
            refine cv_iload_n C (pc' := 36) rfl (D 21 (35, .iload_n 1, 1) rfl) rfl (j := 3) rfl ?_
            refine cv_callV C (pc' := 39) rfl (k0 := 0) (ci := 7) (As := [.int (nI p), .int (nI j)]) (rest := [.int (nI (cv_sb (fun p => cv_op L p j) p))]) (idx := 130) (np := 2) (kX7_isOpen L (-9) p j μ hL hB hM hp (by omega)) (by decide) rfl rfl rfl (by decide +kernel) rfl wmX7_130 wi_yX7_isOpen ws_yX7_isOpen wn_X7 wc_yX7_isOpen (by decide) (by decide) (D 22 (36, .invokevirtual 130, 3) rfl) (Nat.le_of_ble_eq_true rfl) rfl (fun w9 u9 h9 => ?_)
            rw [h9.1, h9.2]
            show cv_At X _ _ μ 39 _ [.int (cv_b (decide (¬ nI p = -9) && cv_op L p j)), .int (nI (cv_sb (fun p => cv_op L p j) p))]
            refine cv_if_eqB C (pc' := 42) rfl (tgt := 48) (D 23 (39, .ifCond .eq 9, 3) rfl) (by decide) (fun b39 => ?_) (fun b39 => ?_)
            · skip
              rw [decide_eq_true (cv_m9 (by omega)), Bool.true_and] at b39
              refine cv_iconst C (pc' := 49) rfl (D 28 (48, .iconst 0, 1) rfl) (v := nI 0) (by decide) ?_
              refine cv_iorN C (pc' := 50) rfl (D 29 (49, .ior, 1) rfl) ?_
              refine cv_istore_n C (pc' := 51) rfl (D 30 (50, .istore_n 2, 1) rfl) rfl (by decide) (lv' := [(2, .int (nI ((cv_sb (fun p => cv_op L p j) p) ||| 0))), (3, .int (nI p)), (0, .ref 0), (1, .int (nI j))]) rfl ?_
              refine cv_iincN C (pc' := 54) rfl (D 31 (51, .iinc 3 1, 3) rfl) (j := 1) rfl (by decide) (lv' := [(3, .int (nI (p + 1))), (2, .int (nI ((cv_sb (fun p => cv_op L p j) p) ||| 0))), (0, .ref 0), (1, .int (nI j))]) rfl ?_
              refine cv_goto C (tgt := 24) (D 32 (54, .goto (-30), 3) rfl) (by decide) ?_
              have hw9 : (cv_sb (fun p => cv_op L p j) p) ||| 0 = cv_sb (fun p => cv_op L p j) (p + 1) := by simp [cv_sb, b39]
              rw [hw9]
              exact ih24 (p + 1) (by omega)
            · skip
              rw [decide_eq_true (cv_m9 (by omega)), Bool.true_and] at b39
              refine cv_iconst C (pc' := 43) rfl (D 24 (42, .iconst 1, 1) rfl) (v := nI 1) (by decide) ?_
              refine cv_iload_n C (pc' := 44) rfl (D 25 (43, .iload_n 3, 1) rfl) rfl (j := 0) rfl ?_
              refine cv_ishl1 C (pc' := 45) rfl (by omega) (D 26 (44, .ishl, 1) rfl) ?_
              refine cv_goto C (tgt := 49) (D 27 (45, .goto 4, 3) rfl) (by decide) ?_
              refine cv_iorN C (pc' := 50) rfl (D 29 (49, .ior, 1) rfl) ?_
              refine cv_istore_n C (pc' := 51) rfl (D 30 (50, .istore_n 2, 1) rfl) rfl (by decide) (lv' := [(2, .int (nI ((cv_sb (fun p => cv_op L p j) p) ||| (2 ^ p)))), (3, .int (nI p)), (0, .ref 0), (1, .int (nI j))]) rfl ?_
              refine cv_iincN C (pc' := 54) rfl (D 31 (51, .iinc 3 1, 3) rfl) (j := 1) rfl (by decide) (lv' := [(3, .int (nI (p + 1))), (2, .int (nI ((cv_sb (fun p => cv_op L p j) p) ||| (2 ^ p)))), (0, .ref 0), (1, .int (nI j))]) rfl ?_
              refine cv_goto C (tgt := 24) (D 32 (54, .goto (-30), 3) rfl) (by decide) ?_
              have hw9 : (cv_sb (fun p => cv_op L p j) p) ||| (2 ^ p) = cv_sb (fun p => cv_op L p j) (p + 1) := by simp [cv_sb, b39]
              rw [hw9]
              exact ih24 (p + 1) (by omega)
      exact LP24 (L 7 0) 0 (by omega)
    · skip
      refine cv_bipush C (pc' := 19) rfl (D 8 (17, .bipush (-3), 2) rfl) (v := -3) (by decide) ?_
      exact cv_iret C Rt rfl (D 9 (19, .ireturn, 1) rfl) ⟨congrArg (fun z => some (Value.int z)) (by unfold cv_a_open cv_day; rw [if_pos b4, if_neg (by omega)]), hR⟩
  · skip
    refine cv_bipush C (pc' := 9) rfl (D 3 (7, .bipush (-2), 2) rfl) (v := -2) (by decide) ?_
    exact cv_iret C Rt rfl (D 4 (9, .ireturn, 1) rfl) ⟨congrArg (fun z => some (Value.int z)) (by unfold cv_a_open cv_day; rw [if_neg (by simp [b4])]), hR⟩

set_option maxHeartbeats 4000000 in
set_option maxRecDepth 100000 in
theorem pX7_soonest (tr : Int32) (ft : Nat) (sl : Nat → Option (Nat × Nat)) (sc : Nat → Nat → Int32) (L : cv_L) (rc : Nat) (rd : Nat → Nat) (rn : Nat → Option Nat) (x : Int32) (μ : cv_St) (hR : cv_RM tr ft sl sc L rc rd rn μ) (hB : cv_LB L) (hDB : cv_DB rc rd rn) : cv_Ct yX7_soonest cX7_soonest 2 (some .int) 5 0 0 17 cv_shM [.ref 0, .int x] μ (fun v u => v = some (.int (cv_a_soonest L x)) ∧ cv_RM tr ft sl sc L rc rd rn u) := by
  refine cv_enter (own := RX7) (by decide) rfl (Nat.le_of_ble_eq_true rfl) ?_
  intro X a C Rt hRm
  have D := @cv_dec _ _ dkX7_soonest
  obtain ⟨hTr, hFt, hSh, hL, hM, hD⟩ := id hR
  have hn6 := hB.1
  have hrc := hDB.1
  show cv_At X _ _ μ 0 [(0, .ref 0), (1, .int x)] []
  refine cv_iload_n C (pc' := 1) rfl (D 0 (0, .iload_n 1, 1) rfl) rfl (j := 1) rfl ?_
  refine cv_callS C (pc' := 4) rfl (As := [.int x]) (rest := []) (idx := 124) (np := 1) (kX7_isDay x μ) (by decide +kernel) rfl wmX7_124 wt_yX7_isDay wn_X7 wc_yX7_isDay (by decide) (by decide) (D 1 (1, .invokestatic 124, 3) rfl) (Nat.le_of_ble_eq_true rfl) rfl (fun w9 u9 h9 => ?_)
  rw [h9.1, h9.2]
  show cv_At X _ _ μ 4 _ [.int (cv_b (cv_in x 8))]
  refine cv_if_neB C (pc' := 7) rfl (tgt := 10) (D 2 (4, .ifCond .ne 6, 3) rfl) (by decide) (fun b4 => ?_) (fun b4 => ?_)
  · skip
    obtain ⟨j, hj, rfl⟩ := cv_in_of b4 (by omega)
    refine cv_aload_n C (pc' := 11) rfl (D 5 (10, .aload_n 0, 1) rfl) rfl (j := 0) rfl ?_
    refine cv_get C (pc' := 14) rfl (k0 := 0) (i := 5) (ci := 7) (by decide) rfl rfl (by decide) (o := none) rfl iw_X7 wfX7_71 (D 6 (11, .getfield 71, 3) rfl) (v := .int (nI (L 7 0))) (congrArg Value.int hL.1) ?_
    refine cv_if_neN C (pc' := 17) rfl (by omega) (tgt := 22) (D 7 (14, .ifCond .ne 8, 3) rfl) (by decide) (fun b14 => ?_) (fun b14 => ?_)
    · skip
      refine cv_aload_n C (pc' := 23) rfl (D 10 (22, .aload_n 0, 1) rfl) rfl (j := 0) rfl ?_
      refine cv_iload_n C (pc' := 24) rfl (D 11 (23, .iload_n 1, 1) rfl) rfl (j := 1) rfl ?_
      refine cv_callV C (pc' := 27) rfl (k0 := 0) (ci := 7) (As := [.int (nI j)]) (rest := []) (idx := 161) (np := 1) (kX7_soonestOf L (-9) j μ hL hB hM (by omega)) (by decide) rfl rfl rfl (by decide +kernel) rfl wmX7_161 wi_yX7_soonestOf ws_yX7_soonestOf wn_X7 wc_yX7_soonestOf (by decide) (by decide) (D 12 (24, .invokevirtual 161, 3) rfl) (Nat.le_of_ble_eq_true rfl) rfl (fun w24 u24 h24 => ?_)
      obtain ⟨e24, f24⟩ := h24
      rw [e24]
      show cv_At X _ _ u24 27 _ [.int (cv_o (cv_so L (-9) j (L 6 1) (L 6 2)))]
      exact cv_iret C Rt rfl (D 13 (27, .ireturn, 1) rfl) ⟨congrArg (fun z => some (Value.int z)) (by unfold cv_a_soonest cv_day; rw [if_pos b4, if_pos (by omega), cv_nt, nI_clamp (by omega)]; rw [cv_so_9 hB]), cv_RM_k (cv_fw_m f24) hR⟩
    · skip
      refine cv_bipush C (pc' := 19) rfl (D 8 (17, .bipush (-3), 2) rfl) (v := -3) (by decide) ?_
      refine cv_goto C (tgt := 27) (D 9 (19, .goto 8, 3) rfl) (by decide) ?_
      exact cv_iret C Rt rfl (D 13 (27, .ireturn, 1) rfl) ⟨congrArg (fun z => some (Value.int z)) (by unfold cv_a_soonest cv_day; rw [if_pos b4, if_neg (by omega)]), hR⟩
  · skip
    refine cv_bipush C (pc' := 9) rfl (D 3 (7, .bipush (-2), 2) rfl) (v := -2) (by decide) ?_
    exact cv_iret C Rt rfl (D 4 (9, .ireturn, 1) rfl) ⟨congrArg (fun z => some (Value.int z)) (by unfold cv_a_soonest cv_day; rw [if_neg (by simp [b4])]), hR⟩

set_option maxHeartbeats 4000000 in
set_option maxRecDepth 100000 in
theorem pX7_holes (tr : Int32) (ft : Nat) (sl : Nat → Option (Nat × Nat)) (sc : Nat → Nat → Int32) (L : cv_L) (rc : Nat) (rd : Nat → Nat) (rn : Nat → Option Nat) (x : Int32) (μ : cv_St) (hR : cv_RM tr ft sl sc L rc rd rn μ) (hB : cv_LB L) (hDB : cv_DB rc rd rn) : cv_Ct yX7_holes cX7_holes 2 (some .int) 4 0 0 17 cv_shM [.ref 0, .int x] μ (fun v u => v = some (.int (cv_a_holes L x)) ∧ cv_RM tr ft sl sc L rc rd rn u) := by
  refine cv_enter (own := RX7) (by decide) rfl (Nat.le_of_ble_eq_true rfl) ?_
  intro X a C Rt hRm
  have D := @cv_dec _ _ dkX7_holes
  obtain ⟨hTr, hFt, hSh, hL, hM, hD⟩ := id hR
  have hn6 := hB.1
  have hrc := hDB.1
  show cv_At X _ _ μ 0 [(0, .ref 0), (1, .int x)] []
  refine cv_iload_n C (pc' := 1) rfl (D 0 (0, .iload_n 1, 1) rfl) rfl (j := 1) rfl ?_
  refine cv_callS C (pc' := 4) rfl (As := [.int x]) (rest := []) (idx := 124) (np := 1) (kX7_isDay x μ) (by decide +kernel) rfl wmX7_124 wt_yX7_isDay wn_X7 wc_yX7_isDay (by decide) (by decide) (D 1 (1, .invokestatic 124, 3) rfl) (Nat.le_of_ble_eq_true rfl) rfl (fun w9 u9 h9 => ?_)
  rw [h9.1, h9.2]
  show cv_At X _ _ μ 4 _ [.int (cv_b (cv_in x 8))]
  refine cv_if_neB C (pc' := 7) rfl (tgt := 10) (D 2 (4, .ifCond .ne 6, 3) rfl) (by decide) (fun b4 => ?_) (fun b4 => ?_)
  · skip
    obtain ⟨j, hj, rfl⟩ := cv_in_of b4 (by omega)
    refine cv_aload_n C (pc' := 11) rfl (D 5 (10, .aload_n 0, 1) rfl) rfl (j := 0) rfl ?_
    refine cv_get C (pc' := 14) rfl (k0 := 0) (i := 5) (ci := 7) (by decide) rfl rfl (by decide) (o := none) rfl iw_X7 wfX7_71 (D 6 (11, .getfield 71, 3) rfl) (v := .int (nI (L 7 0))) (congrArg Value.int hL.1) ?_
    refine cv_if_neN C (pc' := 17) rfl (by omega) (tgt := 20) (D 7 (14, .ifCond .ne 6, 3) rfl) (by decide) (fun b14 => ?_) (fun b14 => ?_)
    · skip
      refine cv_aload_n C (pc' := 21) rfl (D 10 (20, .aload_n 0, 1) rfl) rfl (j := 0) rfl ?_
      refine cv_iload_n C (pc' := 22) rfl (D 11 (21, .iload_n 1, 1) rfl) rfl (j := 1) rfl ?_
      refine cv_callV C (pc' := 25) rfl (k0 := 0) (ci := 7) (As := [.int (nI j)]) (rest := []) (idx := 157) (np := 1) (kX7_makeWheel L (-9) j μ hL hB hM (by omega)) (by decide) rfl rfl rfl (by decide +kernel) rfl wmX7_157 wi_yX7_makeWheel ws_yX7_makeWheel wn_X7 wc_yX7_makeWheel (by decide) (by decide) (D 12 (22, .invokevirtual 157, 3) rfl) (Nat.le_of_ble_eq_true rfl) rfl (fun w22 u22 h22 => ?_)
      obtain ⟨e22, f22, hSu22⟩ := h22
      rw [e22]
      show cv_At X _ _ u22 25 _ []
      refine cv_aload_n C (pc' := 26) rfl (D 13 (25, .aload_n 0, 1) rfl) rfl (j := 0) rfl ?_
      refine cv_get C (pc' := 29) rfl (k0 := 0) (i := 21) (ci := 7) (by decide) rfl rfl (by decide) (o := none) rfl iw_X7 wfX7_142 (D 14 (26, .getfield 142, 3) rfl) (v := .int (cv_o ((cv_mw L (-9) j).2.2))) (congrArg Value.int hSu22.2.2) ?_
      exact cv_iret C Rt rfl (D 15 (29, .ireturn, 1) rfl) ⟨congrArg (fun z => some (Value.int z)) (by unfold cv_a_holes cv_day; rw [if_pos b4, if_pos (by omega), cv_nt, nI_clamp (by omega)]; rw [cv_holes_eq hB (by omega)]), cv_RM_k (cv_fw_m f22) hR⟩
    · skip
      refine cv_bipush C (pc' := 19) rfl (D 8 (17, .bipush (-3), 2) rfl) (v := -3) (by decide) ?_
      exact cv_iret C Rt rfl (D 9 (19, .ireturn, 1) rfl) ⟨congrArg (fun z => some (Value.int z)) (by unfold cv_a_holes cv_day; rw [if_pos b4, if_neg (by omega)]), hR⟩
  · skip
    refine cv_bipush C (pc' := 9) rfl (D 3 (7, .bipush (-2), 2) rfl) (v := -2) (by decide) ?_
    exact cv_iret C Rt rfl (D 4 (9, .ireturn, 1) rfl) ⟨congrArg (fun z => some (Value.int z)) (by unfold cv_a_holes cv_day; rw [if_neg (by simp [b4])]), hR⟩

