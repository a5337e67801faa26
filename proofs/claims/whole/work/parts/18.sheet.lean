set_option maxHeartbeats 4000000 in
set_option maxRecDepth 100000 in
theorem kX3_hasNothing0 (k : Nat) (σ : cv_St) (hk : k < 4) (hS : cv_S1 none (σ (2 + k))) : cv_Ct yX3_hasNothing cX3_hasNothing 1 (some .boolean) 0 0 0 26 cv_shC [.ref (2 + k)] σ (cv_pu (.int (cv_b true)) σ) := by
  refine cv_enter (own := RX3) (by decide) rfl (Nat.le_of_ble_eq_true rfl) ?_
  intro X a C Rt hRm
  have D := @cv_dec _ _ dkX3_hasNothing
  show cv_At X _ _ σ 0 [(0, .ref (2 + k))] []
  refine cv_aload_n C (pc' := 1) rfl (D 0 (0, .aload_n 0, 1) rfl) rfl (j := 0) rfl ?_
  refine cv_get C (pc' := 4) rfl (k0 := 2 + k) (i := 1) (ci := 3) (cv_lt_s hk) (cv_shC_s hk) rfl (by decide) (o := none) rfl iw_X3 wfX3_15 (D 1 (1, .getfield 15, 3) rfl) (v := .int (-1)) (congrArg Value.int hS) ?_
  refine cv_iconst C (pc' := 5) rfl (D 2 (4, .iconst (-1), 1) rfl) (v := -1) (by decide) ?_
  refine cv_icmp_ne C (pc' := 8) rfl (tgt := 12) (D 3 (5, .if_icmp .ne 7, 3) rfl) (by decide) (fun h => absurd h (by decide)) (fun _ => ?_)
  refine cv_iconst C (pc' := 9) rfl (D 4 (8, .iconst 1, 1) rfl) (v := nI 1) (by decide) ?_
  refine cv_goto C (tgt := 13) (D 5 (9, .goto 4, 3) rfl) (by decide) ?_
  exact cv_iret C Rt (by decide) (D 7 (13, .ireturn, 1) rfl) ⟨rfl, rfl⟩

set_option maxHeartbeats 4000000 in
set_option maxRecDepth 100000 in
theorem kX3_hasNothing1 (k : Nat) (q : Nat × Nat) (σ : cv_St) (hk : k < 4) (hS : cv_S1 (some q) (σ (2 + k))) : cv_Ct yX3_hasNothing cX3_hasNothing 1 (some .boolean) 0 0 0 26 cv_shC [.ref (2 + k)] σ (cv_pu (.int (cv_b false)) σ) := by
  refine cv_enter (own := RX3) (by decide) rfl (Nat.le_of_ble_eq_true rfl) ?_
  intro X a C Rt hRm
  have D := @cv_dec _ _ dkX3_hasNothing
  have hq1 := hS.2.2.1
  show cv_At X _ _ σ 0 [(0, .ref (2 + k))] []
  refine cv_aload_n C (pc' := 1) rfl (D 0 (0, .aload_n 0, 1) rfl) rfl (j := 0) rfl ?_
  refine cv_get C (pc' := 4) rfl (k0 := 2 + k) (i := 1) (ci := 3) (cv_lt_s hk) (cv_shC_s hk) rfl (by decide) (o := none) rfl iw_X3 wfX3_15 (D 1 (1, .getfield 15, 3) rfl) (v := .int (nI q.1)) (congrArg Value.int hS.1) ?_
  refine cv_iconst C (pc' := 5) rfl (D 2 (4, .iconst (-1), 1) rfl) (v := -1) (by decide) ?_
  refine cv_icmp_ne C (pc' := 8) rfl (tgt := 12) (D 3 (5, .if_icmp .ne 7, 3) rfl) (by decide) (fun b5 => ?_) (fun b5 => ?_)
  · skip
    refine cv_iconst C (pc' := 13) rfl (D 6 (12, .iconst 0, 1) rfl) (v := nI 0) (by decide) ?_
    exact cv_iret C Rt (by decide) (D 7 (13, .ireturn, 1) rfl) ⟨rfl, rfl⟩
  · skip
    exact absurd b5 (cv_m1 (by omega))

theorem kX3_hasNothing (k : Nat) (o : Option (Nat × Nat)) (σ : cv_St) (hk : k < 4) (hS : cv_S1 o (σ (2 + k))) : cv_Ct yX3_hasNothing cX3_hasNothing 1 (some .boolean) 0 0 0 26 cv_shC [.ref (2 + k)] σ (cv_pu (.int (cv_b o.isNone)) σ) := by
  cases o with
  | none => exact kX3_hasNothing0 k σ hk hS
  | some q => exact kX3_hasNothing1 k q σ hk hS
set_option maxHeartbeats 4000000 in
set_option maxRecDepth 100000 in
theorem kX3_hasCells (k m : Nat) (y z : Int32) (σ : cv_St) (hk : k < 4) (hS : σ (2 + k) 2 = nI m) : cv_Ct yX3_hasCells cX3_hasCells 3 (some .boolean) 0 0 0 26 cv_shC [.ref (2 + k), .int y, .int z] σ (cv_pu (.int (cv_b (cv_hs m y z))) σ) := by
  refine cv_enter (own := RX3) (by decide) rfl (Nat.le_of_ble_eq_true rfl) ?_
  intro X a C Rt hRm
  have D := @cv_dec _ _ dkX3_hasCells
  show cv_At X _ _ σ 0 [(0, .ref (2 + k)), (1, .int y), (2, .int z)] []
  refine cv_iload_n C (pc' := 1) rfl (D 0 (0, .iload_n 1, 1) rfl) rfl (j := 1) rfl ?_
  refine cv_if_lt C (pc' := 4) rfl (tgt := 30) (D 1 (1, .ifCond .lt 29, 3) rfl) (by decide) (fun b1 => ?_) (fun b1 => ?_)
  · skip
    refine cv_iconst C (pc' := 31) rfl (D 16 (30, .iconst 0, 1) rfl) (v := nI 0) (by decide) ?_
    exact cv_iret C Rt (by decide) (D 17 (31, .ireturn, 1) rfl) ⟨congrArg (fun z => some (Value.int z)) (by rw [cv_hs, decide_eq_false (fun h => h.1 b1)]; rfl), rfl⟩
  · skip
    refine cv_iload_n C (pc' := 5) rfl (D 2 (4, .iload_n 2, 1) rfl) rfl (j := 2) rfl ?_
    refine cv_if_lt C (pc' := 8) rfl (tgt := 30) (D 3 (5, .ifCond .lt 25, 3) rfl) (by decide) (fun b5 => ?_) (fun b5 => ?_)
    · skip
      refine cv_iconst C (pc' := 31) rfl (D 16 (30, .iconst 0, 1) rfl) (v := nI 0) (by decide) ?_
      exact cv_iret C Rt (by decide) (D 17 (31, .ireturn, 1) rfl) ⟨congrArg (fun z => some (Value.int z)) (by rw [cv_hs, decide_eq_false (fun h => h.2.1 b5)]; rfl), rfl⟩
    · skip
      refine cv_iload_n C (pc' := 9) rfl (D 4 (8, .iload_n 1, 1) rfl) rfl (j := 1) rfl ?_
      refine cv_aload_n C (pc' := 10) rfl (D 5 (9, .aload_n 0, 1) rfl) rfl (j := 0) rfl ?_
      refine cv_get C (pc' := 13) rfl (k0 := 2 + k) (i := 2) (ci := 3) (cv_lt_s hk) (cv_shC_s hk) rfl (by decide) (o := none) rfl iw_X3 wfX3_19 (D 6 (10, .getfield 19, 3) rfl) (v := .int (nI m)) (congrArg Value.int hS) ?_
      refine cv_icmp_gt C (pc' := 16) rfl (tgt := 30) (D 7 (13, .if_icmp .gt 17, 3) rfl) (by decide) (fun b13 => ?_) (fun b13 => ?_)
      · skip
        refine cv_iconst C (pc' := 31) rfl (D 16 (30, .iconst 0, 1) rfl) (v := nI 0) (by decide) ?_
        exact cv_iret C Rt (by decide) (D 17 (31, .ireturn, 1) rfl) ⟨congrArg (fun z => some (Value.int z)) (by rw [cv_hs, decide_eq_false (fun h => absurd b13 (Int32.not_lt.mpr h.2.2.1))]; rfl), rfl⟩
      · skip
        refine cv_iload_n C (pc' := 17) rfl (D 8 (16, .iload_n 2, 1) rfl) rfl (j := 2) rfl ?_
        refine cv_aload_n C (pc' := 18) rfl (D 9 (17, .aload_n 0, 1) rfl) rfl (j := 0) rfl ?_
        refine cv_get C (pc' := 21) rfl (k0 := 2 + k) (i := 2) (ci := 3) (cv_lt_s hk) (cv_shC_s hk) rfl (by decide) (o := none) rfl iw_X3 wfX3_19 (D 10 (18, .getfield 19, 3) rfl) (v := .int (nI m)) (congrArg Value.int hS) ?_
        refine cv_iload_n C (pc' := 22) rfl (D 11 (21, .iload_n 1, 1) rfl) rfl (j := 1) rfl ?_
        refine cv_isub C (pc' := 23) rfl (D 12 (22, .isub, 1) rfl) ?_
        refine cv_icmp_gt C (pc' := 26) rfl (tgt := 30) (D 13 (23, .if_icmp .gt 7, 3) rfl) (by decide) (fun b23 => ?_) (fun b23 => ?_)
        · skip
          refine cv_iconst C (pc' := 31) rfl (D 16 (30, .iconst 0, 1) rfl) (v := nI 0) (by decide) ?_
          exact cv_iret C Rt (by decide) (D 17 (31, .ireturn, 1) rfl) ⟨congrArg (fun z => some (Value.int z)) (by rw [cv_hs, decide_eq_false (fun h => absurd b23 (Int32.not_lt.mpr h.2.2.2))]; rfl), rfl⟩
        · skip
          refine cv_iconst C (pc' := 27) rfl (D 14 (26, .iconst 1, 1) rfl) (v := nI 1) (by decide) ?_
          refine cv_goto C (tgt := 31) (D 15 (27, .goto 4, 3) rfl) (by decide) ?_
          exact cv_iret C Rt (by decide) (D 17 (31, .ireturn, 1) rfl) ⟨congrArg (fun z => some (Value.int z)) (by rw [cv_hs, decide_eq_true ⟨b1, b5, Int32.not_lt.mp b13, Int32.not_lt.mp b23⟩]; rfl), rfl⟩

set_option maxHeartbeats 4000000 in
set_option maxRecDepth 100000 in
theorem kX3_faultOf0 (k : Nat) (x y z : Int32) (σ : cv_St) (hk : k < 4) (hS : cv_S1 none (σ (2 + k))) : cv_Ct yX3_faultOf cX3_faultOf 4 (some .int) 1 0 0 26 cv_shC [.ref (2 + k), .int x, .int y, .int z] σ (cv_pu (.int (nI (cv_fo none x y z))) σ) := by
  refine cv_enter (own := RX3) (by decide) rfl (Nat.le_of_ble_eq_true rfl) ?_
  intro X a C Rt hRm
  have D := @cv_dec _ _ dkX3_faultOf
  show cv_At X _ _ σ 0 [(0, .ref (2 + k)), (1, .int x), (2, .int y), (3, .int z)] []
  refine cv_aload_n C (pc' := 1) rfl (D 0 (0, .aload_n 0, 1) rfl) rfl (j := 0) rfl ?_
  refine cv_callV C (pc' := 4) rfl (k0 := 2 + k) (ci := 3) (As := []) (rest := []) (idx := 22) (np := 0) (kX3_hasNothing k none σ hk hS) (cv_lt_s hk) (cv_shC_s hk) rfl rfl (by decide +kernel) rfl wmX3_22 wi_yX3_hasNothing ws_yX3_hasNothing wn_X3 wc_yX3_hasNothing (by decide) (by decide) (D 1 (1, .invokevirtual 22, 3) rfl) (Nat.le_of_ble_eq_true rfl) rfl (fun w9 u9 h9 => ?_)
  rw [h9.1, h9.2]
  show cv_At X _ _ σ 4 _ [.int (cv_b true)]
  refine cv_if_neB C (pc' := 7) rfl (tgt := 17) (D 2 (4, .ifCond .ne 13, 3) rfl) (by decide) (fun b4 => ?_) (fun b4 => ?_)
  · skip
    refine cv_aload_n C (pc' := 18) rfl (D 9 (17, .aload_n 0, 1) rfl) rfl (j := 0) rfl ?_
    refine cv_callV C (pc' := 21) rfl (k0 := 2 + k) (ci := 3) (As := []) (rest := []) (idx := 22) (np := 0) (kX3_hasNothing k none σ hk hS) (cv_lt_s hk) (cv_shC_s hk) rfl rfl (by decide +kernel) rfl wmX3_22 wi_yX3_hasNothing ws_yX3_hasNothing wn_X3 wc_yX3_hasNothing (by decide) (by decide) (D 10 (18, .invokevirtual 22, 3) rfl) (Nat.le_of_ble_eq_true rfl) rfl (fun w9 u9 h9 => ?_)
    rw [h9.1, h9.2]
    show cv_At X _ _ σ 21 _ [.int (cv_b true)]
    refine cv_if_eqB C (pc' := 24) rfl (tgt := 26) (D 11 (21, .ifCond .eq 5, 3) rfl) (by decide) (fun b21 => ?_) (fun b21 => ?_)
    · skip
      cases b21
    · skip
      refine cv_iconst C (pc' := 25) rfl (D 12 (24, .iconst 1, 1) rfl) (v := nI 1) (by decide) ?_
      exact cv_iret C Rt rfl (D 13 (25, .ireturn, 1) rfl) ⟨rfl, rfl⟩
  · skip
    cases b4

set_option maxHeartbeats 4000000 in
set_option maxRecDepth 100000 in
theorem kX3_faultOf1 (k : Nat) (q : Nat × Nat) (x y z : Int32) (σ : cv_St) (hk : k < 4) (hS : cv_S1 (some q) (σ (2 + k))) : cv_Ct yX3_faultOf cX3_faultOf 4 (some .int) 1 0 0 26 cv_shC [.ref (2 + k), .int x, .int y, .int z] σ (cv_pu (.int (nI (cv_fo (some q) x y z))) σ) := by
  refine cv_enter (own := RX3) (by decide) rfl (Nat.le_of_ble_eq_true rfl) ?_
  intro X a C Rt hRm
  have D := @cv_dec _ _ dkX3_faultOf
  show cv_At X _ _ σ 0 [(0, .ref (2 + k)), (1, .int x), (2, .int y), (3, .int z)] []
  refine cv_aload_n C (pc' := 1) rfl (D 0 (0, .aload_n 0, 1) rfl) rfl (j := 0) rfl ?_
  refine cv_callV C (pc' := 4) rfl (k0 := 2 + k) (ci := 3) (As := []) (rest := []) (idx := 22) (np := 0) (kX3_hasNothing k (some q) σ hk hS) (cv_lt_s hk) (cv_shC_s hk) rfl rfl (by decide +kernel) rfl wmX3_22 wi_yX3_hasNothing ws_yX3_hasNothing wn_X3 wc_yX3_hasNothing (by decide) (by decide) (D 1 (1, .invokevirtual 22, 3) rfl) (Nat.le_of_ble_eq_true rfl) rfl (fun w9 u9 h9 => ?_)
  rw [h9.1, h9.2]
  show cv_At X _ _ σ 4 _ [.int (cv_b false)]
  refine cv_if_neB C (pc' := 7) rfl (tgt := 17) (D 2 (4, .ifCond .ne 13, 3) rfl) (by decide) (fun b4 => ?_) (fun b4 => ?_)
  · skip
    cases b4
  · skip
    refine cv_aload_n C (pc' := 8) rfl (D 3 (7, .aload_n 0, 1) rfl) rfl (j := 0) rfl ?_
    refine cv_get C (pc' := 11) rfl (k0 := 2 + k) (i := 1) (ci := 3) (cv_lt_s hk) (cv_shC_s hk) rfl (by decide) (o := none) rfl iw_X3 wfX3_15 (D 4 (8, .getfield 15, 3) rfl) (v := .int (nI q.1)) (congrArg Value.int hS.1) ?_
    refine cv_iload_n C (pc' := 12) rfl (D 5 (11, .iload_n 1, 1) rfl) rfl (j := 1) rfl ?_
    refine cv_icmp_eq C (pc' := 15) rfl (tgt := 17) (D 6 (12, .if_icmp .eq 5, 3) rfl) (by decide) (fun b12 => ?_) (fun b12 => ?_)
    · skip
      refine cv_aload_n C (pc' := 18) rfl (D 9 (17, .aload_n 0, 1) rfl) rfl (j := 0) rfl ?_
      refine cv_callV C (pc' := 21) rfl (k0 := 2 + k) (ci := 3) (As := []) (rest := []) (idx := 22) (np := 0) (kX3_hasNothing k (some q) σ hk hS) (cv_lt_s hk) (cv_shC_s hk) rfl rfl (by decide +kernel) rfl wmX3_22 wi_yX3_hasNothing ws_yX3_hasNothing wn_X3 wc_yX3_hasNothing (by decide) (by decide) (D 10 (18, .invokevirtual 22, 3) rfl) (Nat.le_of_ble_eq_true rfl) rfl (fun w9 u9 h9 => ?_)
      rw [h9.1, h9.2]
      show cv_At X _ _ σ 21 _ [.int (cv_b false)]
      refine cv_if_eqB C (pc' := 24) rfl (tgt := 26) (D 11 (21, .ifCond .eq 5, 3) rfl) (by decide) (fun b21 => ?_) (fun b21 => ?_)
      · skip
        refine cv_iload_n C (pc' := 27) rfl (D 14 (26, .iload_n 3, 1) rfl) rfl (j := 3) rfl ?_
        refine cv_if_ge C (pc' := 30) rfl (tgt := 32) (D 15 (27, .ifCond .ge 5, 3) rfl) (by decide) (fun b27 => ?_) (fun b27 => ?_)
        · skip
          refine cv_aload_n C (pc' := 33) rfl (D 18 (32, .aload_n 0, 1) rfl) rfl (j := 0) rfl ?_
          refine cv_iload_n C (pc' := 34) rfl (D 19 (33, .iload_n 2, 1) rfl) rfl (j := 2) rfl ?_
          refine cv_iload_n C (pc' := 35) rfl (D 20 (34, .iload_n 3, 1) rfl) rfl (j := 3) rfl ?_
          refine cv_callV C (pc' := 38) rfl (k0 := 2 + k) (ci := 3) (As := [.int y, .int z]) (rest := []) (idx := 26) (np := 2) (kX3_hasCells k q.2 y z σ hk hS.2.1) (cv_lt_s hk) (cv_shC_s hk) rfl rfl (by decide +kernel) rfl wmX3_26 wi_yX3_hasCells ws_yX3_hasCells wn_X3 wc_yX3_hasCells (by decide) (by decide) (D 21 (35, .invokevirtual 26, 3) rfl) (Nat.le_of_ble_eq_true rfl) rfl (fun w9 u9 h9 => ?_)
          rw [h9.1, h9.2]
          show cv_At X _ _ σ 38 _ [.int (cv_b (cv_hs q.2 y z))]
          refine cv_if_eqB C (pc' := 41) rfl (tgt := 45) (D 22 (38, .ifCond .eq 7, 3) rfl) (by decide) (fun b38 => ?_) (fun b38 => ?_)
          · skip
            refine cv_iconst C (pc' := 46) rfl (D 25 (45, .iconst 3, 1) rfl) (v := nI 3) (by decide) ?_
            exact cv_iret C Rt rfl (D 26 (46, .ireturn, 1) rfl) ⟨congrArg (fun z => some (Value.int z)) (by simp only [cv_fo]; rw [if_pos b12, if_neg (Int32.not_lt.mpr b27)]; rw [if_neg (by simp [b38])]), rfl⟩
          · skip
            refine cv_iconst C (pc' := 42) rfl (D 23 (41, .iconst 0, 1) rfl) (v := nI 0) (by decide) ?_
            refine cv_goto C (tgt := 46) (D 24 (42, .goto 4, 3) rfl) (by decide) ?_
            exact cv_iret C Rt rfl (D 26 (46, .ireturn, 1) rfl) ⟨congrArg (fun z => some (Value.int z)) (by simp only [cv_fo]; rw [if_pos b12, if_neg (Int32.not_lt.mpr b27)]; rw [if_pos b38]), rfl⟩
        · skip
          refine cv_iconst C (pc' := 31) rfl (D 16 (30, .iconst 4, 1) rfl) (v := nI 4) (by decide) ?_
          exact cv_iret C Rt rfl (D 17 (31, .ireturn, 1) rfl) ⟨congrArg (fun z => some (Value.int z)) (by simp only [cv_fo]; rw [if_pos b12, if_pos (Int32.not_le.mp b27)]), rfl⟩
      · skip
        cases b21
    · skip
      refine cv_iconst C (pc' := 16) rfl (D 7 (15, .iconst 2, 1) rfl) (v := nI 2) (by decide) ?_
      exact cv_iret C Rt rfl (D 8 (16, .ireturn, 1) rfl) ⟨congrArg (fun z => some (Value.int z)) (by simp only [cv_fo]; rw [if_neg b12]), rfl⟩

theorem kX3_faultOf (k : Nat) (o : Option (Nat × Nat)) (x y z : Int32) (σ : cv_St) (hk : k < 4) (hS : cv_S1 o (σ (2 + k))) : cv_Ct yX3_faultOf cX3_faultOf 4 (some .int) 1 0 0 26 cv_shC [.ref (2 + k), .int x, .int y, .int z] σ (cv_pu (.int (nI (cv_fo o x y z))) σ) := by
  cases o with
  | none => exact kX3_faultOf0 k x y z σ hk hS
  | some q => exact kX3_faultOf1 k q x y z σ hk hS
set_option maxHeartbeats 4000000 in
set_option maxRecDepth 100000 in
theorem kX3_cut (k : Nat) (q : Nat × Nat) (v : Int32) (σ : cv_St) (hk : k < 4) (hS : cv_S1 (some q) (σ (2 + k))) : cv_Ct yX3_cut cX3_cut 2 (some .int) 0 0 0 26 cv_shC [.ref (2 + k), .int v] σ (cv_pu (.int (cv_ct q.1 v)) σ) := by
  refine cv_enter (own := RX3) (by decide) rfl (Nat.le_of_ble_eq_true rfl) ?_
  intro X a C Rt hRm
  have D := @cv_dec _ _ dkX3_cut
  have hq1 := hS.2.2.1
  show cv_At X _ _ σ 0 [(0, .ref (2 + k)), (1, .int v)] []
  refine cv_aload_n C (pc' := 1) rfl (D 0 (0, .aload_n 0, 1) rfl) rfl (j := 0) rfl ?_
  refine cv_get C (pc' := 4) rfl (k0 := 2 + k) (i := 1) (ci := 3) (cv_lt_s hk) (cv_shC_s hk) rfl (by decide) (o := none) rfl iw_X3 wfX3_15 (D 1 (1, .getfield 15, 3) rfl) (v := .int (nI q.1)) (congrArg Value.int hS.1) ?_
  have hq3 : q.1 = 0 ∨ q.1 = 1 ∨ q.1 = 2 := by omega
  rcases hq3 with h0 | h0 | h0
  · skip
    refine cv_top (w := nI 0) (congrArg nI h0) ?_
    refine cv_lookup C (D 2 (4, .lookupswitch 34 #[(0, 28), (1, 31)], 28) rfl) (off := 28) (tgt := 32) (by decide) (by decide) (by decide) ?_
    refine cv_iload_n C (pc' := 33) rfl (D 3 (32, .iload_n 1, 1) rfl) rfl (j := 1) rfl ?_
    refine cv_i2b C (pc' := 34) rfl (D 4 (33, .i2b, 1) rfl) rfl ?_
    exact cv_iret C Rt rfl (D 5 (34, .ireturn, 1) rfl) ⟨congrArg (fun z => some (Value.int z)) (by unfold cv_ct; simp [h0]), rfl⟩
  · skip
    refine cv_top (w := nI 1) (congrArg nI h0) ?_
    refine cv_lookup C (D 2 (4, .lookupswitch 34 #[(0, 28), (1, 31)], 28) rfl) (off := 31) (tgt := 35) (by decide) (by decide) (by decide) ?_
    refine cv_iload_n C (pc' := 36) rfl (D 6 (35, .iload_n 1, 1) rfl) rfl (j := 1) rfl ?_
    refine cv_i2s C (pc' := 37) rfl (D 7 (36, .i2s, 1) rfl) rfl ?_
    exact cv_iret C Rt rfl (D 8 (37, .ireturn, 1) rfl) ⟨congrArg (fun z => some (Value.int z)) (by unfold cv_ct; simp [h0]), rfl⟩
  · skip
    refine cv_top (w := nI 2) (congrArg nI h0) ?_
    refine cv_lookup C (D 2 (4, .lookupswitch 34 #[(0, 28), (1, 31)], 28) rfl) (off := 34) (tgt := 38) (by decide) (by decide) (by decide) ?_
    refine cv_iload_n C (pc' := 39) rfl (D 9 (38, .iload_n 1, 1) rfl) rfl (j := 1) rfl ?_
    exact cv_iret C Rt rfl (D 10 (39, .ireturn, 1) rfl) ⟨congrArg (fun z => some (Value.int z)) (by unfold cv_ct; simp [h0]), rfl⟩

set_option maxHeartbeats 4000000 in
set_option maxRecDepth 100000 in
theorem kX3_renew (k : Nat) (x y : Int32) (σ : cv_St) (hk : k < 4) : cv_Ct yX3_renew cX3_renew 4 none 0 0 0 26 cv_shC [.ref (2 + k), .int x, .int y] σ (fun v u => v = none ∧ (∀ j, j ≠ 2 + k → j ≠ 6 + k → u j = σ j) ∧ u (2 + k) 1 = x ∧ u (2 + k) 2 = y ∧ ∀ i, i < 60 → u (6 + k) i = 0) := by
  refine cv_enter (own := RX3) (by decide) rfl (Nat.le_of_ble_eq_true rfl) ?_
  intro X a C Rt hRm
  have D := @cv_dec _ _ dkX3_renew
  show cv_At X _ _ σ 0 [(0, .ref (2 + k)), (1, .int x), (2, .int y)] []
  refine cv_aload_n C (pc' := 1) rfl (D 0 (0, .aload_n 0, 1) rfl) rfl (j := 0) rfl ?_
  refine cv_iload_n C (pc' := 2) rfl (D 1 (1, .iload_n 1, 1) rfl) rfl (j := 1) rfl ?_
  refine cv_put C (pc' := 5) rfl (k0 := 2 + k) (i := 1) (ci := 3) (cv_lt_s hk) (cv_shC_s hk) rfl (by decide) rfl iw_X3 tyX3 tyX3_ok nmX3 wfX3_15 rfl rfl rfl (D 2 (2, .putfield 15, 3) rfl) ?_
  refine cv_aload_n C (pc' := 6) rfl (D 3 (5, .aload_n 0, 1) rfl) rfl (j := 0) rfl ?_
  refine cv_iload_n C (pc' := 7) rfl (D 4 (6, .iload_n 2, 1) rfl) rfl (j := 2) rfl ?_
  refine cv_put C (pc' := 10) rfl (k0 := 2 + k) (i := 2) (ci := 3) (cv_lt_s hk) (cv_shC_s hk) rfl (by decide) rfl iw_X3 tyX3 tyX3_ok nmX3 wfX3_19 rfl rfl rfl (D 5 (7, .putfield 19, 3) rfl) ?_
  refine cv_iconst C (pc' := 11) rfl (D 6 (10, .iconst 0, 1) rfl) (v := nI 0) (by decide) ?_
  refine cv_istore_n C (pc' := 12) rfl (D 7 (11, .istore_n 3, 1) rfl) rfl (by decide) (lv' := [(3, .int (nI 0)), (0, .ref (2 + k)), (1, .int x), (2, .int y)]) rfl ?_
  have LP12 : ∀ (r : Nat) (i : Nat) (τ : cv_St), (i + r = 60) → ((∀ j, j ≠ 2 + k → j ≠ 6 + k → τ j = σ j) ∧ τ (2 + k) 1 = x ∧ τ (2 + k) 2 = y ∧ ∀ q, q < i → τ (6 + k) q = 0) → cv_At X (26, cv_shC, 0, 0, a) 4 τ 12 [(3, .int (nI i)), (0, .ref (2 + k)), (1, .int x), (2, .int y)] [] := by
    intro r
    induction r with
    | zero =>
      intro i τ hr hI
      obtain rfl : i = 60 := by omega
      refine cv_iload_n C (pc' := 13) rfl (D 8 (12, .iload_n 3, 1) rfl) rfl (j := 0) rfl ?_
      refine cv_bipush C (pc' := 15) rfl (D 9 (13, .bipush 60, 2) rfl) (v := nI 60) (by decide) ?_
      refine cv_icmp_ge C (pc' := 18) rfl (tgt := 31) (D 10 (15, .if_icmp .ge 16, 3) rfl) (by decide) (fun _ => ?_) (fun h => absurd h (by decide))
      exact cv_vret C Rt (D 18 (31, .return_, 1) rfl) ⟨rfl, hI⟩
    | succ r ih12 =>
      intro i τ hr hI
      refine cv_iload_n C (pc' := 13) rfl (D 8 (12, .iload_n 3, 1) rfl) rfl (j := 0) rfl ?_
      refine cv_bipush C (pc' := 15) rfl (D 9 (13, .bipush 60, 2) rfl) (v := nI 60) (by decide) ?_
      refine cv_icmp_geN C (pc' := 18) rfl (by omega) (by omega) (tgt := 31) (D 10 (15, .if_icmp .ge 16, 3) rfl) (by decide) (fun b15 => ?_) (fun b15 => ?_)
      · skip
        omega
      · skip
        refine cv_aload_n C (pc' := 19) rfl (D 11 (18, .aload_n 0, 1) rfl) rfl (j := 1) rfl ?_
        refine cv_get C (pc' := 22) rfl (k0 := 2 + k) (i := 0) (ci := 3) (cv_lt_s hk) (cv_shC_s hk) rfl (by decide) (o := some (6 + k)) rfl iw_X3 wfX3_9 (D 12 (19, .getfield 9, 3) rfl) rfl ?_
        refine cv_iload_n C (pc' := 23) rfl (D 13 (22, .iload_n 3, 1) rfl) rfl (j := 0) rfl ?_
        refine cv_iconst C (pc' := 24) rfl (D 14 (23, .iconst 0, 1) rfl) (v := nI 0) (by decide) ?_
        refine cv_iast C (pc' := 25) rfl (k0 := 6 + k) (j := i) (cv_lt_c hk) (cv_shC_c hk) rfl (by omega) (by decide) (D 15 (24, .iastore, 1) rfl) ?_
        refine cv_iincN C (pc' := 28) rfl (D 16 (25, .iinc 3 1, 3) rfl) (j := 0) rfl (by decide) (lv' := [(3, .int (nI (i + 1))), (0, .ref (2 + k)), (1, .int x), (2, .int y)]) rfl ?_
        refine cv_goto C (tgt := 12) (D 17 (28, .goto (-16), 3) rfl) (by decide) ?_
        exact ih12 (i + 1) (cv_u τ (6 + k) i (nI 0)) (by omega) ⟨fun j h1 h2 => by rw [cv_u_c h2]; exact hI.1 j h1 h2, by rw [cv_u_c (by omega)]; exact hI.2.1, by rw [cv_u_c (by omega)]; exact hI.2.2.1, cv_ex (fun q h => by rw [cv_u_i (by omega)]; exact hI.2.2.2 q h) cv_u_s⟩
  exact LP12 60 0 (cv_u (cv_u σ (2 + k) 1 x) (2 + k) 2 y) (by decide) ⟨fun j h1 h2 => by simp only [cv_u_c h1], by simp [cv_u_at], by simp [cv_u_at], fun q h => by omega⟩

