set_option maxHeartbeats 4000000 in
set_option maxRecDepth 100000 in
theorem pX6_copy (tr : Int32) (ft : Nat) (sl : Nat → Option (Nat × Nat)) (sc : Nat → Nat → Int32) (L : cv_L) (rc : Nat) (rd : Nat → Nat) (rn : Nat → Option Nat) (x y z w t : Int32) (σ : cv_St) (hR : cv_RC tr ft sl sc L rc rd rn σ) (hB : cv_LB L) (hDB : cv_DB rc rd rn) : cv_Ct yX6_copy cX6_copy 8 (some .int) 2 0 0 26 cv_shC [.ref 0, .int x, .int y, .int z, .int w, .int t] σ (fun v u => v = some (.int (cv_a_copy sl x y z w t)) ∧ cv_RC tr (cv_f_copy sl x y z w t) sl (cv_n_copy sl sc x y z w t) L rc rd rn u) := by
  refine cv_enter (own := RX6) (by decide) rfl (Nat.le_of_ble_eq_true rfl) ?_
  intro X a C Rt hRm
  have D := @cv_dec _ _ dkX6_copy
  obtain ⟨hTr, hFt, hSh, hL, hSe, hD⟩ := id hR
  have hn6 := hB.1
  have hrc := hDB.1
  show cv_At X _ _ σ 0 [(0, .ref 0), (1, .int x), (2, .int y), (3, .int z), (4, .int w), (5, .int t)] []
  refine cv_aload_n C (pc' := 1) rfl (D 0 (0, .aload_n 0, 1) rfl) rfl (j := 0) rfl ?_
  refine cv_iconst C (pc' := 2) rfl (D 1 (1, .iconst 0, 1) rfl) (v := nI 0) (by decide) ?_
  refine cv_put C (pc' := 5) rfl (k0 := 0) (i := 5) (ci := 6) (by decide) rfl rfl (by decide) rfl iw_X6 tyX6 tyX6_ok nmX6 wfX6_39 rfl rfl rfl (D 2 (2, .putfield 39, 3) rfl) ?_
  refine cv_iload_n C (pc' := 6) rfl (D 3 (5, .iload_n 1, 1) rfl) rfl (j := 1) rfl ?_
  refine cv_callS C (pc' := 9) rfl (As := [.int x]) (rest := []) (idx := 43) (np := 1) (kX6_isSheet x (cv_u σ 0 5 (nI 0))) (by decide +kernel) rfl wmX6_43 wt_yX6_isSheet wn_X6 wc_yX6_isSheet (by decide) (by decide) (D 4 (6, .invokestatic 43, 3) rfl) (Nat.le_of_ble_eq_true rfl) rfl (fun w9 u9 h9 => ?_)
  rw [h9.1, h9.2]
  show cv_At X _ _ (cv_u σ 0 5 (nI 0)) 9 _ [.int (cv_b (cv_in x 4))]
  refine cv_if_eqB C (pc' := 12) rfl (tgt := 19) (D 5 (9, .ifCond .eq 10, 3) rfl) (by decide) (fun b9 => ?_) (fun b9 => ?_)
  · skip
    refine cv_iconst C (pc' := 20) rfl (D 9 (19, .iconst (-1), 1) rfl) (v := -1) (by decide) ?_
    exact cv_iret C Rt rfl (D 10 (20, .ireturn, 1) rfl) ⟨congrArg (fun z => some (Value.int z)) (by unfold cv_a_copy; rw [if_neg (by simp [b9])]), by unfold cv_f_copy cv_n_copy; rw [if_neg (by simp [b9]), if_neg (by simp [b9])]; exact cv_RC_f _ hR⟩
  · skip
    refine cv_iload_n C (pc' := 13) rfl (D 6 (12, .iload_n 3, 1) rfl) rfl (j := 3) rfl ?_
    refine cv_callS C (pc' := 16) rfl (As := [.int z]) (rest := []) (idx := 43) (np := 1) (kX6_isSheet z (cv_u σ 0 5 (nI 0))) (by decide +kernel) rfl wmX6_43 wt_yX6_isSheet wn_X6 wc_yX6_isSheet (by decide) (by decide) (D 7 (13, .invokestatic 43, 3) rfl) (Nat.le_of_ble_eq_true rfl) rfl (fun w9 u9 h9 => ?_)
    rw [h9.1, h9.2]
    show cv_At X _ _ (cv_u σ 0 5 (nI 0)) 16 _ [.int (cv_b (cv_in z 4))]
    refine cv_if_neB C (pc' := 19) rfl (tgt := 21) (D 8 (16, .ifCond .ne 5, 3) rfl) (by decide) (fun b16 => ?_) (fun b16 => ?_)
    · skip
      obtain ⟨j, hj, rfl⟩ := cv_in_of b9 (by omega)
      obtain ⟨k, hk, rfl⟩ := cv_in_of b16 (by omega)
      refine cv_aload_n C (pc' := 22) rfl (D 11 (21, .aload_n 0, 1) rfl) rfl (j := 0) rfl ?_
      refine cv_get C (pc' := 25) rfl (k0 := 0) (i := 0) (ci := 6) (by decide) rfl rfl (by decide) (o := some 1) rfl iw_X6 wfX6_13 (D 12 (22, .getfield 13, 3) rfl) rfl ?_
      refine cv_iload_n C (pc' := 26) rfl (D 13 (25, .iload_n 1, 1) rfl) rfl (j := 1) rfl ?_
      refine cv_aald C (pc' := 27) rfl (k0 := 1) (j := j) (r := 2 + j) (by decide) rfl rfl rfl (cv_ix_s hj) (by decide) (D 14 (26, .aaload, 1) rfl) ?_
      refine cv_astore C (pc' := 29) rfl (D 15 (27, .astore 6, 2) rfl) (by decide) (lv' := [(6, .ref (2 + j)), (0, .ref 0), (1, .int (nI j)), (2, .int y), (3, .int (nI k)), (4, .int w), (5, .int t)]) rfl ?_
      refine cv_aload_n C (pc' := 30) rfl (D 16 (29, .aload_n 0, 1) rfl) rfl (j := 1) rfl ?_
      refine cv_get C (pc' := 33) rfl (k0 := 0) (i := 0) (ci := 6) (by decide) rfl rfl (by decide) (o := some 1) rfl iw_X6 wfX6_13 (D 17 (30, .getfield 13, 3) rfl) rfl ?_
      refine cv_iload_n C (pc' := 34) rfl (D 18 (33, .iload_n 3, 1) rfl) rfl (j := 4) rfl ?_
      refine cv_aald C (pc' := 35) rfl (k0 := 1) (j := k) (r := 2 + k) (by decide) rfl rfl rfl (cv_ix_s hk) (by decide) (D 19 (34, .aaload, 1) rfl) ?_
      refine cv_astore C (pc' := 37) rfl (D 20 (35, .astore 7, 2) rfl) (by decide) (lv' := [(7, .ref (2 + k)), (6, .ref (2 + j)), (0, .ref 0), (1, .int (nI j)), (2, .int y), (3, .int (nI k)), (4, .int w), (5, .int t)]) rfl ?_
      refine cv_aload C (pc' := 39) rfl (D 21 (37, .aload 6, 2) rfl) (j := 1) rfl ?_
      refine cv_callV C (pc' := 42) rfl (k0 := 2 + j) (ci := 3) (As := []) (rest := []) (idx := 196) (np := 0) (kX3_hasNothing j (sl j) (cv_u σ 0 5 (nI 0)) hj (by rw [cv_u_0k (by omega)]; exact (hSh j hj).1)) (cv_lt_s hj) (cv_shC_s hj) rfl rfl (by decide +kernel) rfl wmX6_196 wi_yX3_hasNothing ws_yX3_hasNothing wn_X3 wc_yX3_hasNothing (by decide) (by decide) (D 22 (39, .invokevirtual 196, 3) rfl) (Nat.le_of_ble_eq_true rfl) rfl (fun w9 u9 h9 => ?_)
      rw [h9.1, h9.2]
      show cv_At X _ _ (cv_u σ 0 5 (nI 0)) 42 _ [.int (cv_b ((sl j).isNone))]
      refine cv_if_neB C (pc' := 45) rfl (tgt := 53) (D 23 (42, .ifCond .ne 11, 3) rfl) (by decide) (fun b42 => ?_) (fun b42 => ?_)
      · skip
        have hfc : cv_fc (sl j) (sl k) y w t = 1 := by rw [cv_isN1 b42]; rfl
        refine cv_aload_n C (pc' := 54) rfl (D 27 (53, .aload_n 0, 1) rfl) rfl (j := 2) rfl ?_
        refine cv_iconst C (pc' := 55) rfl (D 28 (54, .iconst 1, 1) rfl) (v := nI 1) (by decide) ?_
        refine cv_callV C (pc' := 58) rfl (k0 := 0) (ci := 6) (As := [.int (nI 1)]) (rest := []) (idx := 54) (np := 1) (kX6_failed 1 (cv_u σ 0 5 (nI 0))) (by decide) rfl rfl rfl (by decide +kernel) rfl wmX6_54 wi_yX6_failed ws_yX6_failed wn_X6 wc_yX6_failed (by decide) (by decide) (D 29 (55, .invokevirtual 54, 3) rfl) (Nat.le_of_ble_eq_true rfl) rfl (fun w55 u55 h55 => ?_)
        rw [h55.1, h55.2, cv_uu]
        show cv_At X _ _ (cv_u σ 0 5 (nI 1)) 58 _ [.int (-10 - nI 1)]
        exact cv_iret C Rt rfl (D 30 (58, .ireturn, 1) rfl) ⟨congrArg (fun z => some (Value.int z)) (by unfold cv_a_copy; simp only [cv_nt, nI_clamp (show j < 2 ^ 31 by omega), nI_clamp (show k < 2 ^ 31 by omega)]; rw [if_pos ⟨b9, b16⟩, hfc]; rw [if_neg (by decide)]), by unfold cv_f_copy cv_n_copy; simp only [cv_nt, nI_clamp (show j < 2 ^ 31 by omega), nI_clamp (show k < 2 ^ 31 by omega)]; rw [if_pos ⟨b9, b16⟩, hfc, if_neg (fun h => by have := h.2; cases this)]; exact cv_RC_f _ hR⟩
      · skip
        refine cv_aload C (pc' := 47) rfl (D 24 (45, .aload 7, 2) rfl) (j := 0) rfl ?_
        refine cv_callV C (pc' := 50) rfl (k0 := 2 + k) (ci := 3) (As := []) (rest := []) (idx := 196) (np := 0) (kX3_hasNothing k (sl k) (cv_u σ 0 5 (nI 0)) hk (by rw [cv_u_0k (by omega)]; exact (hSh k hk).1)) (cv_lt_s hk) (cv_shC_s hk) rfl rfl (by decide +kernel) rfl wmX6_196 wi_yX3_hasNothing ws_yX3_hasNothing wn_X3 wc_yX3_hasNothing (by decide) (by decide) (D 25 (47, .invokevirtual 196, 3) rfl) (Nat.le_of_ble_eq_true rfl) rfl (fun w9 u9 h9 => ?_)
        rw [h9.1, h9.2]
        show cv_At X _ _ (cv_u σ 0 5 (nI 0)) 50 _ [.int (cv_b ((sl k).isNone))]
        refine cv_if_eqB C (pc' := 53) rfl (tgt := 59) (D 26 (50, .ifCond .eq 9, 3) rfl) (by decide) (fun b50 => ?_) (fun b50 => ?_)
        · skip
          obtain ⟨qj, ej⟩ := cv_isN b42
          obtain ⟨qk, ek⟩ := cv_isN b50
          have hSj := (hSh j hj).1
          rw [ej] at hSj
          have hSk := (hSh k hk).1
          rw [ek] at hSk
          have hj3 := hSj.2.2.1
          have hj60 := hSj.2.2.2
          have hk3 := hSk.2.2.1
          have hk60 := hSk.2.2.2
          refine cv_aload C (pc' := 61) rfl (D 31 (59, .aload 6, 2) rfl) (j := 1) rfl ?_
          refine cv_get C (pc' := 64) rfl (k0 := 2 + j) (i := 1) (ci := 3) (cv_lt_s hj) (cv_shC_s hj) rfl (by decide) (o := none) rfl iw_X3 wfX6_200 (D 32 (61, .getfield 200, 3) rfl) (v := .int (nI qj.1)) (congrArg Value.int ((congrFun (cv_u_c (by omega)) _).trans hSj.1)) ?_
          refine cv_aload C (pc' := 66) rfl (D 33 (64, .aload 7, 2) rfl) (j := 0) rfl ?_
          refine cv_get C (pc' := 69) rfl (k0 := 2 + k) (i := 1) (ci := 3) (cv_lt_s hk) (cv_shC_s hk) rfl (by decide) (o := none) rfl iw_X3 wfX6_200 (D 34 (66, .getfield 200, 3) rfl) (v := .int (nI qk.1)) (congrArg Value.int ((congrFun (cv_u_c (by omega)) _).trans hSk.1)) ?_
          refine cv_icmp_eqN C (pc' := 72) rfl (by omega) (by omega) (tgt := 78) (D 35 (69, .if_icmp .eq 9, 3) rfl) (by decide) (fun b69 => ?_) (fun b69 => ?_)
          · skip
            refine cv_aload C (pc' := 80) rfl (D 40 (78, .aload 6, 2) rfl) (j := 1) rfl ?_
            refine cv_iload_n C (pc' := 81) rfl (D 41 (80, .iload_n 2, 1) rfl) rfl (j := 4) rfl ?_
            refine cv_iload C (pc' := 83) rfl (D 42 (81, .iload 5, 2) rfl) (j := 7) rfl ?_
            refine cv_callV C (pc' := 86) rfl (k0 := 2 + j) (ci := 3) (As := [.int y, .int t]) (rest := []) (idx := 206) (np := 2) (kX3_hasCells j qj.2 y t (cv_u σ 0 5 (nI 0)) hj (by rw [cv_u_0k (by omega)]; exact hSj.2.1)) (cv_lt_s hj) (cv_shC_s hj) rfl rfl (by decide +kernel) rfl wmX6_206 wi_yX3_hasCells ws_yX3_hasCells wn_X3 wc_yX3_hasCells (by decide) (by decide) (D 43 (83, .invokevirtual 206, 3) rfl) (Nat.le_of_ble_eq_true rfl) rfl (fun w9 u9 h9 => ?_)
            rw [h9.1, h9.2]
            show cv_At X _ _ (cv_u σ 0 5 (nI 0)) 86 _ [.int (cv_b (cv_hs qj.2 y t))]
            refine cv_if_eqB C (pc' := 89) rfl (tgt := 101) (D 44 (86, .ifCond .eq 15, 3) rfl) (by decide) (fun b86 => ?_) (fun b86 => ?_)
            · skip
              have hfc : cv_fc (sl j) (sl k) y w t = 3 := by rw [ej, ek]; unfold cv_fc; dsimp only; rw [if_pos b69, if_neg (by simp [b86])]
              refine cv_aload_n C (pc' := 102) rfl (D 50 (101, .aload_n 0, 1) rfl) rfl (j := 2) rfl ?_
              refine cv_iconst C (pc' := 103) rfl (D 51 (102, .iconst 3, 1) rfl) (v := nI 3) (by decide) ?_
              refine cv_callV C (pc' := 106) rfl (k0 := 0) (ci := 6) (As := [.int (nI 3)]) (rest := []) (idx := 54) (np := 1) (kX6_failed 3 (cv_u σ 0 5 (nI 0))) (by decide) rfl rfl rfl (by decide +kernel) rfl wmX6_54 wi_yX6_failed ws_yX6_failed wn_X6 wc_yX6_failed (by decide) (by decide) (D 52 (103, .invokevirtual 54, 3) rfl) (Nat.le_of_ble_eq_true rfl) rfl (fun w103 u103 h103 => ?_)
              rw [h103.1, h103.2, cv_uu]
              show cv_At X _ _ (cv_u σ 0 5 (nI 3)) 106 _ [.int (-10 - nI 3)]
              exact cv_iret C Rt rfl (D 53 (106, .ireturn, 1) rfl) ⟨congrArg (fun z => some (Value.int z)) (by unfold cv_a_copy; simp only [cv_nt, nI_clamp (show j < 2 ^ 31 by omega), nI_clamp (show k < 2 ^ 31 by omega)]; rw [if_pos ⟨b9, b16⟩, hfc]; rw [if_neg (by decide)]), by unfold cv_f_copy cv_n_copy; simp only [cv_nt, nI_clamp (show j < 2 ^ 31 by omega), nI_clamp (show k < 2 ^ 31 by omega)]; rw [if_pos ⟨b9, b16⟩, hfc, if_neg (fun h => by have := h.2; cases this)]; exact cv_RC_f _ hR⟩
            · skip
              refine cv_aload C (pc' := 91) rfl (D 45 (89, .aload 7, 2) rfl) (j := 0) rfl ?_
              refine cv_iload C (pc' := 93) rfl (D 46 (91, .iload 4, 2) rfl) (j := 6) rfl ?_
              refine cv_iload C (pc' := 95) rfl (D 47 (93, .iload 5, 2) rfl) (j := 7) rfl ?_
              refine cv_callV C (pc' := 98) rfl (k0 := 2 + k) (ci := 3) (As := [.int w, .int t]) (rest := []) (idx := 206) (np := 2) (kX3_hasCells k qk.2 w t (cv_u σ 0 5 (nI 0)) hk (by rw [cv_u_0k (by omega)]; exact hSk.2.1)) (cv_lt_s hk) (cv_shC_s hk) rfl rfl (by decide +kernel) rfl wmX6_206 wi_yX3_hasCells ws_yX3_hasCells wn_X3 wc_yX3_hasCells (by decide) (by decide) (D 48 (95, .invokevirtual 206, 3) rfl) (Nat.le_of_ble_eq_true rfl) rfl (fun w9 u9 h9 => ?_)
              rw [h9.1, h9.2]
              show cv_At X _ _ (cv_u σ 0 5 (nI 0)) 98 _ [.int (cv_b (cv_hs qk.2 w t))]
              refine cv_if_neB C (pc' := 101) rfl (tgt := 107) (D 49 (98, .ifCond .ne 9, 3) rfl) (by decide) (fun b98 => ?_) (fun b98 => ?_)
              · skip
                have hfc : cv_fc (sl j) (sl k) y w t = 0 := by rw [ej, ek]; unfold cv_fc; dsimp only; rw [if_pos b69, if_pos ⟨b86, b98⟩]
                obtain ⟨i1, n1, e1, e2, h1⟩ := cv_hs_of hj60 b86
                obtain ⟨i2, n2, e3, e4, h2⟩ := cv_hs_of hk60 b98
                have e5 := (nI_eq (by omega) (by omega)).mp (e2.symm.trans e4)
                subst e5
                subst e1
                subst e2
                subst e3
                refine cv_aload C (pc' := 109) rfl (D 54 (107, .aload 6, 2) rfl) (j := 1) rfl ?_
                refine cv_get C (pc' := 112) rfl (k0 := 2 + j) (i := 0) (ci := 3) (cv_lt_s hj) (cv_shC_s hj) rfl (by decide) (o := some (6 + j)) rfl iw_X3 wfX6_60 (D 55 (109, .getfield 60, 3) rfl) rfl ?_
                refine cv_iload_n C (pc' := 113) rfl (D 56 (112, .iload_n 2, 1) rfl) rfl (j := 4) rfl ?_
                refine cv_aload C (pc' := 115) rfl (D 57 (113, .aload 7, 2) rfl) (j := 0) rfl ?_
                refine cv_get C (pc' := 118) rfl (k0 := 2 + k) (i := 0) (ci := 3) (cv_lt_s hk) (cv_shC_s hk) rfl (by decide) (o := some (6 + k)) rfl iw_X3 wfX6_60 (D 58 (115, .getfield 60, 3) rfl) rfl ?_
                refine cv_iload C (pc' := 120) rfl (D 59 (118, .iload 4, 2) rfl) (j := 6) rfl ?_
                refine cv_iload C (pc' := 122) rfl (D 60 (120, .iload 5, 2) rfl) (j := 7) rfl ?_
                refine cv_acopy C (pc' := 125) rfl (k0 := 6 + j) (k1 := 6 + k) (i := i1) (j := i2) (t := n1) (cv_lt_c hj) (cv_lt_c hk) (cv_shC_c hj) (cv_shC_c hk) (by omega) (by omega) (by decide) (by decide) wmX6_209 (by decide) (Nat.le_of_ble_eq_true rfl) (D 61 (122, .invokestatic 209, 3) rfl) ?_
                refine cv_iload C (pc' := 127) rfl (D 62 (125, .iload 5, 2) rfl) (j := 7) rfl ?_
                exact cv_iret C Rt rfl (D 63 (127, .ireturn, 1) rfl) ⟨congrArg (fun z => some (Value.int z)) (by unfold cv_a_copy; simp only [cv_nt, nI_clamp (show j < 2 ^ 31 by omega), nI_clamp (show k < 2 ^ 31 by omega)]; rw [if_pos ⟨b9, b16⟩, hfc]; rw [if_pos rfl]), by unfold cv_f_copy cv_n_copy; simp only [cv_nt, nI_clamp (show j < 2 ^ 31 by omega), nI_clamp (show k < 2 ^ 31 by omega)]; rw [if_pos ⟨b9, b16⟩, hfc, if_pos ⟨⟨b9, b16⟩, rfl⟩]; simp only [cv_nt, nI_clamp (show j < 2 ^ 31 by omega), nI_clamp (show k < 2 ^ 31 by omega), nI_clamp (show i1 < 2 ^ 31 by omega), nI_clamp (show i2 < 2 ^ 31 by omega), nI_clamp (show n1 < 2 ^ 31 by omega)]; exact cv_RC_same (fun m hm => (cv_ss_id ek m).symm) (fun _ _ _ _ _ => rfl) (cv_RC_S hB hk (fun m h1 h2 => cv_uc_n h2) (by rw [cv_uc_n (by omega), cv_u_0k (by omega)]; exact hSk) (fun _ m hm => by rw [cv_uc_s]; exact cv_cpy_row (by omega) hm (fun m hm => by rw [cv_u_0k (by omega)]; exact (hSh j hj).2 (by rw [ej]; rfl) m hm) (fun m hm => by rw [cv_u_0k (by omega)]; exact (hSh k hk).2 (by rw [ek]; rfl) m hm)) (cv_RC_f 0 hR))⟩
              · skip
                have hfc : cv_fc (sl j) (sl k) y w t = 3 := by rw [ej, ek]; unfold cv_fc; dsimp only; rw [if_pos b69, if_neg (by simp [b98])]
                refine cv_aload_n C (pc' := 102) rfl (D 50 (101, .aload_n 0, 1) rfl) rfl (j := 2) rfl ?_
                refine cv_iconst C (pc' := 103) rfl (D 51 (102, .iconst 3, 1) rfl) (v := nI 3) (by decide) ?_
                refine cv_callV C (pc' := 106) rfl (k0 := 0) (ci := 6) (As := [.int (nI 3)]) (rest := []) (idx := 54) (np := 1) (kX6_failed 3 (cv_u σ 0 5 (nI 0))) (by decide) rfl rfl rfl (by decide +kernel) rfl wmX6_54 wi_yX6_failed ws_yX6_failed wn_X6 wc_yX6_failed (by decide) (by decide) (D 52 (103, .invokevirtual 54, 3) rfl) (Nat.le_of_ble_eq_true rfl) rfl (fun w103 u103 h103 => ?_)
                rw [h103.1, h103.2, cv_uu]
                show cv_At X _ _ (cv_u σ 0 5 (nI 3)) 106 _ [.int (-10 - nI 3)]
                exact cv_iret C Rt rfl (D 53 (106, .ireturn, 1) rfl) ⟨congrArg (fun z => some (Value.int z)) (by unfold cv_a_copy; simp only [cv_nt, nI_clamp (show j < 2 ^ 31 by omega), nI_clamp (show k < 2 ^ 31 by omega)]; rw [if_pos ⟨b9, b16⟩, hfc]; rw [if_neg (by decide)]), by unfold cv_f_copy cv_n_copy; simp only [cv_nt, nI_clamp (show j < 2 ^ 31 by omega), nI_clamp (show k < 2 ^ 31 by omega)]; rw [if_pos ⟨b9, b16⟩, hfc, if_neg (fun h => by have := h.2; cases this)]; exact cv_RC_f _ hR⟩
          · skip
            have hfc : cv_fc (sl j) (sl k) y w t = 2 := by rw [ej, ek]; unfold cv_fc; dsimp only; rw [if_neg b69]
            refine cv_aload_n C (pc' := 73) rfl (D 36 (72, .aload_n 0, 1) rfl) rfl (j := 2) rfl ?_
            refine cv_iconst C (pc' := 74) rfl (D 37 (73, .iconst 2, 1) rfl) (v := nI 2) (by decide) ?_
            refine cv_callV C (pc' := 77) rfl (k0 := 0) (ci := 6) (As := [.int (nI 2)]) (rest := []) (idx := 54) (np := 1) (kX6_failed 2 (cv_u σ 0 5 (nI 0))) (by decide) rfl rfl rfl (by decide +kernel) rfl wmX6_54 wi_yX6_failed ws_yX6_failed wn_X6 wc_yX6_failed (by decide) (by decide) (D 38 (74, .invokevirtual 54, 3) rfl) (Nat.le_of_ble_eq_true rfl) rfl (fun w74 u74 h74 => ?_)
            rw [h74.1, h74.2, cv_uu]
            show cv_At X _ _ (cv_u σ 0 5 (nI 2)) 77 _ [.int (-10 - nI 2)]
            exact cv_iret C Rt rfl (D 39 (77, .ireturn, 1) rfl) ⟨congrArg (fun z => some (Value.int z)) (by unfold cv_a_copy; simp only [cv_nt, nI_clamp (show j < 2 ^ 31 by omega), nI_clamp (show k < 2 ^ 31 by omega)]; rw [if_pos ⟨b9, b16⟩, hfc]; rw [if_neg (by decide)]), by unfold cv_f_copy cv_n_copy; simp only [cv_nt, nI_clamp (show j < 2 ^ 31 by omega), nI_clamp (show k < 2 ^ 31 by omega)]; rw [if_pos ⟨b9, b16⟩, hfc, if_neg (fun h => by have := h.2; cases this)]; exact cv_RC_f _ hR⟩
        · skip
          have hfc : cv_fc (sl j) (sl k) y w t = 1 := by rw [cv_isN1 b50]; cases sl j <;> rfl
          refine cv_aload_n C (pc' := 54) rfl (D 27 (53, .aload_n 0, 1) rfl) rfl (j := 2) rfl ?_
          refine cv_iconst C (pc' := 55) rfl (D 28 (54, .iconst 1, 1) rfl) (v := nI 1) (by decide) ?_
          refine cv_callV C (pc' := 58) rfl (k0 := 0) (ci := 6) (As := [.int (nI 1)]) (rest := []) (idx := 54) (np := 1) (kX6_failed 1 (cv_u σ 0 5 (nI 0))) (by decide) rfl rfl rfl (by decide +kernel) rfl wmX6_54 wi_yX6_failed ws_yX6_failed wn_X6 wc_yX6_failed (by decide) (by decide) (D 29 (55, .invokevirtual 54, 3) rfl) (Nat.le_of_ble_eq_true rfl) rfl (fun w55 u55 h55 => ?_)
          rw [h55.1, h55.2, cv_uu]
          show cv_At X _ _ (cv_u σ 0 5 (nI 1)) 58 _ [.int (-10 - nI 1)]
          exact cv_iret C Rt rfl (D 30 (58, .ireturn, 1) rfl) ⟨congrArg (fun z => some (Value.int z)) (by unfold cv_a_copy; simp only [cv_nt, nI_clamp (show j < 2 ^ 31 by omega), nI_clamp (show k < 2 ^ 31 by omega)]; rw [if_pos ⟨b9, b16⟩, hfc]; rw [if_neg (by decide)]), by unfold cv_f_copy cv_n_copy; simp only [cv_nt, nI_clamp (show j < 2 ^ 31 by omega), nI_clamp (show k < 2 ^ 31 by omega)]; rw [if_pos ⟨b9, b16⟩, hfc, if_neg (fun h => by have := h.2; cases this)]; exact cv_RC_f _ hR⟩
    · skip
      refine cv_iconst C (pc' := 20) rfl (D 9 (19, .iconst (-1), 1) rfl) (v := -1) (by decide) ?_
      exact cv_iret C Rt rfl (D 10 (20, .ireturn, 1) rfl) ⟨congrArg (fun z => some (Value.int z)) (by unfold cv_a_copy; rw [if_neg (by simp [b16])]), by unfold cv_f_copy cv_n_copy; rw [if_neg (by simp [b16]), if_neg (by simp [b16])]; exact cv_RC_f _ hR⟩

set_option maxHeartbeats 4000000 in
set_option maxRecDepth 100000 in
theorem kX6_refusalOfSteps (L : cv_L) (f : Nat → Int32) (j i n : Nat) (σ : cv_St) (hL : cv_LC L σ) (hB : cv_LB L) (hj : j < 4) (hin : i + n ≤ 60) (hf : ∀ k, k < 60 → σ (6 + j) k = f k) : cv_Ct yX6_refusalOfSteps cX6_refusalOfSteps 6 (some .int) 2 0 0 26 cv_shC [.ref 0, .ref (6 + j), .int (nI i), .int (nI n)] σ (cv_pu (.int (cv_rs L f i n)) σ) := by
  refine cv_enter (own := RX6) (by decide) rfl (Nat.le_of_ble_eq_true rfl) ?_
  intro X a C Rt hRm
  have D := @cv_dec _ _ dkX6_refusalOfSteps
  show cv_At X _ _ σ 0 [(0, .ref 0), (1, .ref (6 + j)), (2, .int (nI i)), (3, .int (nI n))] []
  refine cv_iconst C (pc' := 1) rfl (D 0 (0, .iconst 0, 1) rfl) (v := nI 0) (by decide) ?_
  refine cv_istore C (pc' := 3) rfl (D 1 (1, .istore 4, 2) rfl) (by decide) (lv' := [(4, .int (nI 0)), (0, .ref 0), (1, .ref (6 + j)), (2, .int (nI i)), (3, .int (nI n))]) rfl ?_
  have LP3 : ∀ (r : Nat) (k : Nat), (k + r = n) → (cv_rs L f i k = 0) → cv_At X (26, cv_shC, 0, 0, a) 6 σ 3 [(4, .int (nI k)), (0, .ref 0), (1, .ref (6 + j)), (2, .int (nI i)), (3, .int (nI n))] [] := by
    intro r
    induction r with
    | zero =>
      intro k hr h0
      refine cv_iload C (pc' := 5) rfl (D 2 (3, .iload 4, 2) rfl) (j := 0) rfl ?_
      refine cv_iload_n C (pc' := 6) rfl (D 3 (5, .iload_n 3, 1) rfl) rfl (j := 4) rfl ?_
      refine cv_icmp_geN C (pc' := 9) rfl (by omega) (by omega) (tgt := 56) (D 4 (6, .if_icmp .ge 50, 3) rfl) (by decide) (fun b6 => ?_) (fun b6 => ?_)
      · skip
        refine cv_iconst C (pc' := 57) rfl (D 29 (56, .iconst 0, 1) rfl) (v := nI 0) (by decide) ?_
        exact cv_iret C Rt rfl (D 30 (57, .ireturn, 1) rfl) ⟨congrArg (fun z => some (Value.int z)) (by rw [show n = k by omega, h0]; rfl), rfl⟩
      · skip
        omega
    | succ r ih3 =>
      intro k hr h0
      refine cv_iload C (pc' := 5) rfl (D 2 (3, .iload 4, 2) rfl) (j := 0) rfl ?_
      refine cv_iload_n C (pc' := 6) rfl (D 3 (5, .iload_n 3, 1) rfl) rfl (j := 4) rfl ?_
      refine cv_icmp_geN C (pc' := 9) rfl (by omega) (by omega) (tgt := 56) (D 4 (6, .if_icmp .ge 50, 3) rfl) (by decide) (fun b6 => ?_) (fun b6 => ?_)
      · skip
        omega
      · skip
        refine cv_aload_n C (pc' := 10) rfl (D 5 (9, .aload_n 1, 1) rfl) rfl (j := 2) rfl ?_
        refine cv_iload_n C (pc' := 11) rfl (D 6 (10, .iload_n 2, 1) rfl) rfl (j := 3) rfl ?_
        refine cv_iload C (pc' := 13) rfl (D 7 (11, .iload 4, 2) rfl) (j := 0) rfl ?_
        refine cv_iaddN C (pc' := 14) rfl (D 8 (13, .iadd, 1) rfl) ?_
        refine cv_iald C (pc' := 15) rfl (k0 := 6 + j) (j := i + k) (cv_lt_c hj) (cv_shC_c hj) rfl (by omega) (by decide) (D 9 (14, .iaload, 1) rfl) (v := f (i + k)) (hf _ (by omega)) ?_
        refine cv_istore C (pc' := 17) rfl (D 10 (15, .istore 5, 2) rfl) (by decide) (lv' := [(5, .int (f (i + k))), (4, .int (nI k)), (0, .ref 0), (1, .ref (6 + j)), (2, .int (nI i)), (3, .int (nI n))]) rfl ?_
        refine cv_iload C (pc' := 19) rfl (D 11 (17, .iload 5, 2) rfl) (j := 0) rfl ?_
        refine cv_if_lt C (pc' := 22) rfl (tgt := 29) (D 12 (19, .ifCond .lt 10, 3) rfl) (by decide) (fun b19 => ?_) (fun b19 => ?_)
        · skip
          refine cv_bipush C (pc' := 31) rfl (D 16 (29, .bipush (-2), 2) rfl) (v := -2) (by decide) ?_
          exact cv_iret C Rt rfl (D 17 (31, .ireturn, 1) rfl) ⟨congrArg (fun z => some (Value.int z)) (by rw [cv_rs_of h0 (r := -2) (by unfold cv_r1; rw [if_pos (Or.inl b19)]) (by decide) n (by omega)]), rfl⟩
        · skip
          refine cv_iload C (pc' := 24) rfl (D 13 (22, .iload 5, 2) rfl) (j := 0) rfl ?_
          refine cv_bipush C (pc' := 26) rfl (D 14 (24, .bipush 8, 2) rfl) (v := nI 8) (by decide) ?_
          refine cv_icmp_le C (pc' := 29) rfl (tgt := 32) (D 15 (26, .if_icmp .le 6, 3) rfl) (by decide) (fun b26 => ?_) (fun b26 => ?_)
          · skip
            refine cv_iload C (pc' := 34) rfl (D 18 (32, .iload 5, 2) rfl) (j := 0) rfl ?_
            refine cv_bipush C (pc' := 36) rfl (D 19 (34, .bipush 6, 2) rfl) (v := nI 6) (by decide) ?_
            refine cv_icmp_ge C (pc' := 39) rfl (tgt := 50) (D 20 (36, .if_icmp .ge 14, 3) rfl) (by decide) (fun b36 => ?_) (fun b36 => ?_)
            · skip
              refine cv_iincN C (pc' := 53) rfl (D 27 (50, .iinc 4 1, 3) rfl) (j := 1) rfl (by decide) (lv' := [(4, .int (nI (k + 1))), (5, .int (f (i + k))), (0, .ref 0), (1, .ref (6 + j)), (2, .int (nI i)), (3, .int (nI n))]) rfl ?_
              refine cv_goto C (tgt := 3) (D 28 (53, .goto (-50), 3) rfl) (by decide) ?_
              refine cv_pick [0, 2, 3, 4, 5] (lv' := [(4, .int (nI (k + 1))), (0, .ref 0), (1, .ref (6 + j)), (2, .int (nI i)), (3, .int (nI n))]) rfl ?_
              exact ih3 (k + 1) (by omega) (by simp only [cv_rs]; rw [if_pos h0]; unfold cv_r1; rw [if_neg (by intro h; rcases h with h | h; exact b19 h; exact Int32.not_lt.mpr b26 h), if_neg (fun h => absurd h.1 (Int32.not_lt.mpr b36))])
            · skip
              refine cv_aload_n C (pc' := 40) rfl (D 21 (39, .aload_n 0, 1) rfl) rfl (j := 2) rfl ?_
              refine cv_iload C (pc' := 42) rfl (D 22 (40, .iload 5, 2) rfl) (j := 0) rfl ?_
              refine cv_callV C (pc' := 45) rfl (k0 := 0) (ci := 6) (As := [.int (f (i + k))]) (rest := []) (idx := 81) (np := 1) (kX6_isPass (f (i + k)) L σ hL) (by decide) rfl rfl rfl (by decide +kernel) rfl wmX6_81 wi_yX6_isPass ws_yX6_isPass wn_X6 wc_yX6_isPass (by decide) (by decide) (D 23 (42, .invokevirtual 81, 3) rfl) (Nat.le_of_ble_eq_true rfl) rfl (fun w9 u9 h9 => ?_)
              rw [h9.1, h9.2]
              show cv_At X _ _ σ 45 _ [.int (cv_b (cv_in (f (i + k)) (L 7 0)))]
              refine cv_if_neB C (pc' := 48) rfl (tgt := 50) (D 24 (45, .ifCond .ne 5, 3) rfl) (by decide) (fun b45 => ?_) (fun b45 => ?_)
              · skip
                refine cv_iincN C (pc' := 53) rfl (D 27 (50, .iinc 4 1, 3) rfl) (j := 1) rfl (by decide) (lv' := [(4, .int (nI (k + 1))), (5, .int (f (i + k))), (0, .ref 0), (1, .ref (6 + j)), (2, .int (nI i)), (3, .int (nI n))]) rfl ?_
                refine cv_goto C (tgt := 3) (D 28 (53, .goto (-50), 3) rfl) (by decide) ?_
                refine cv_pick [0, 2, 3, 4, 5] (lv' := [(4, .int (nI (k + 1))), (0, .ref 0), (1, .ref (6 + j)), (2, .int (nI i)), (3, .int (nI n))]) rfl ?_
                exact ih3 (k + 1) (by omega) (by simp only [cv_rs]; rw [if_pos h0]; unfold cv_r1; rw [if_neg (by intro h; rcases h with h | h; exact b19 h; exact Int32.not_lt.mpr b26 h), if_neg (fun h => by rw [h.2] at b45; cases b45)])
              · skip
                refine cv_iconst C (pc' := 49) rfl (D 25 (48, .iconst (-1), 1) rfl) (v := -1) (by decide) ?_
                exact cv_iret C Rt rfl (D 26 (49, .ireturn, 1) rfl) ⟨congrArg (fun z => some (Value.int z)) (by rw [cv_rs_of h0 (r := -1) (by unfold cv_r1; rw [if_neg (by intro h; rcases h with h | h; exact b19 h; exact Int32.not_lt.mpr b26 h), if_pos ⟨Int32.not_le.mp b36, b45⟩]) (by decide) n (by omega)]), rfl⟩
          · skip
            refine cv_bipush C (pc' := 31) rfl (D 16 (29, .bipush (-2), 2) rfl) (v := -2) (by decide) ?_
            exact cv_iret C Rt rfl (D 17 (31, .ireturn, 1) rfl) ⟨congrArg (fun z => some (Value.int z)) (by rw [cv_rs_of h0 (r := -2) (by unfold cv_r1; rw [if_pos (Or.inr (Int32.not_le.mp b26))]) (by decide) n (by omega)]), rfl⟩
  exact LP3 n 0 (by omega) rfl

set_option maxHeartbeats 4000000 in
set_option maxRecDepth 100000 in
theorem kX6_firstWrong (L : cv_L) (f : Nat → Int32) (j i n d : Nat) (σ : cv_St) (hL : cv_LC L σ) (hB : cv_LB L) (hj : j < 4) (hin : i + n ≤ 60) (hd : d < 8) (hf : ∀ k, k < 60 → σ (6 + j) k = f k) (hrs : ∀ k, k < n → cv_r1 L (f (i + k)) = 0) (hW : cv_WC (d, 0, 0, 0) σ) : cv_Ct yX6_firstWrong cX6_firstWrong 6 (some .int) 4 0 0 26 cv_shC [.ref 0, .ref (6 + j), .int (nI i), .int (nI n)] σ (fun v u => v = some (.int (cv_o (cv_wr L f i d n))) ∧ (∀ k, k ≠ 22 → u k = σ k) ∧ (cv_wr L f i d n = none → ∃ q, cv_ru L f i d n = some q ∧ cv_WC q u)) := by
  refine cv_enter (own := RX6) (by decide) rfl (Nat.le_of_ble_eq_true rfl) ?_
  intro X a C Rt hRm
  have D := @cv_dec _ _ dkX6_firstWrong
  have hg0 := hB.2.2.2 0 (by decide)
  show cv_At X _ _ σ 0 [(0, .ref 0), (1, .ref (6 + j)), (2, .int (nI i)), (3, .int (nI n))] []
  refine cv_aload_n C (pc' := 1) rfl (D 0 (0, .aload_n 0, 1) rfl) rfl (j := 0) rfl ?_
  refine cv_get C (pc' := 4) rfl (k0 := 0) (i := 1) (ci := 6) (by decide) rfl rfl (by decide) (o := some 10) rfl iw_X6 wfX6_21 (D 1 (1, .getfield 21, 3) rfl) rfl ?_
  refine cv_get C (pc' := 7) rfl (k0 := 10) (i := 2) (ci := 0) (by decide) rfl rfl (by decide) (o := some 19) rfl iw_X0 wfX6_125 (D 2 (4, .getfield 125, 3) rfl) rfl ?_
  refine cv_iconst C (pc' := 8) rfl (D 3 (7, .iconst 0, 1) rfl) (v := nI 0) (by decide) ?_
  refine cv_iald C (pc' := 9) rfl (k0 := 19) (j := 0) (by decide) rfl rfl (by omega) (by decide) (D 4 (8, .iaload, 1) rfl) (v := nI (L 6 0)) (hL.2.2.1 _ (by omega)) ?_
  refine cv_aload_n C (pc' := 10) rfl (D 5 (9, .aload_n 0, 1) rfl) rfl (j := 0) rfl ?_
  refine cv_get C (pc' := 13) rfl (k0 := 0) (i := 2) (ci := 6) (by decide) rfl rfl (by decide) (o := some 22) rfl iw_X6 wfX6_28 (D 6 (10, .getfield 28, 3) rfl) rfl ?_
  refine cv_get C (pc' := 16) rfl (k0 := 22) (i := 0) (ci := 5) (by decide) rfl rfl (by decide) (o := none) rfl iw_X5 wfX6_231 (D 7 (13, .getfield 231, 3) rfl) (v := .int (nI d)) (congrArg Value.int hW.1) ?_
  refine cv_callS C (pc' := 19) rfl (As := [.int (nI (L 6 0)), .int (nI d)]) (rest := []) (idx := 234) (np := 2) (kX6_hasDay (L 6 0) d σ (by omega) (by omega)) (by decide +kernel) rfl wmX6_234 wt_yX6_hasDay wn_X6 wc_yX6_hasDay (by decide) (by decide) (D 8 (16, .invokestatic 234, 3) rfl) (Nat.le_of_ble_eq_true rfl) rfl (fun w9 u9 h9 => ?_)
  rw [h9.1, h9.2]
  show cv_At X _ _ σ 19 _ [.int (cv_b ((L 6 0).testBit d))]
  refine cv_istore C (pc' := 21) rfl (D 9 (19, .istore 4, 2) rfl) (by decide) (lv' := [(4, .int (cv_b ((L 6 0).testBit d))), (0, .ref 0), (1, .ref (6 + j)), (2, .int (nI i)), (3, .int (nI n))]) rfl ?_
  refine cv_iconst C (pc' := 22) rfl (D 10 (21, .iconst 0, 1) rfl) (v := nI 0) (by decide) ?_
  refine cv_istore C (pc' := 24) rfl (D 11 (22, .istore 5, 2) rfl) (by decide) (lv' := [(5, .int (nI 0)), (4, .int (cv_b ((L 6 0).testBit d))), (0, .ref 0), (1, .ref (6 + j)), (2, .int (nI i)), (3, .int (nI n))]) rfl ?_
  have LP24 : ∀ (r : Nat) (k : Nat) (q : cv_Q) (τ : cv_St), (k + r = n) → (cv_ru L f i d k = some q) → (cv_WC q τ) → (∀ k, k ≠ 22 → τ k = σ k) → (k = 0 ∨ (L 6 0).testBit d = true) → cv_At X (26, cv_shC, 0, 0, a) 6 τ 24 [(5, .int (nI k)), (0, .ref 0), (1, .ref (6 + j)), (2, .int (nI i)), (3, .int (nI n)), (4, .int (cv_b ((L 6 0).testBit d)))] [] := by
    intro r
    induction r with
    | zero =>
      intro k q τ hr hq hWτ hKτ hk0
      have hLτ := cv_LC_k (fun m _ _ h => hKτ m h) hL hB
      refine cv_iload C (pc' := 26) rfl (D 12 (24, .iload 5, 2) rfl) (j := 0) rfl ?_
      refine cv_iload_n C (pc' := 27) rfl (D 13 (26, .iload_n 3, 1) rfl) rfl (j := 4) rfl ?_
      refine cv_icmp_geN C (pc' := 30) rfl (by omega) (by omega) (tgt := 64) (D 14 (27, .if_icmp .ge 37, 3) rfl) (by decide) (fun b27 => ?_) (fun b27 => ?_)
      · skip
        refine cv_bipush C (pc' := 66) rfl (D 32 (64, .bipush (-9), 2) rfl) (v := -9) (by decide) ?_
        exact cv_iret C Rt rfl (D 33 (66, .ireturn, 1) rfl) ⟨by rw [cv_wr_none (by rcases hk0 with h | h; exact Or.inl (by omega); exact Or.inr h) (by rw [show n = k by omega]; exact hq)]; rfl, hKτ, fun _ => ⟨q, by rw [show n = k by omega]; exact hq, hWτ⟩⟩
      · skip
        omega
    | succ r ih24 =>
      intro k q τ hr hq hWτ hKτ hk0
      have hLτ := cv_LC_k (fun m _ _ h => hKτ m h) hL hB
      obtain ⟨x, hx, ex, hx6⟩ := cv_r1_of hB (hrs k (by omega))
      have hWB := cv_ru_b hB hd hrs k (by omega) q hq
      refine cv_iload C (pc' := 26) rfl (D 12 (24, .iload 5, 2) rfl) (j := 0) rfl ?_
      refine cv_iload_n C (pc' := 27) rfl (D 13 (26, .iload_n 3, 1) rfl) rfl (j := 4) rfl ?_
      refine cv_icmp_geN C (pc' := 30) rfl (by omega) (by omega) (tgt := 64) (D 14 (27, .if_icmp .ge 37, 3) rfl) (by decide) (fun b27 => ?_) (fun b27 => ?_)
      · skip
        omega
      · skip
        refine cv_iload C (pc' := 32) rfl (D 15 (30, .iload 4, 2) rfl) (j := 5) rfl ?_
        refine cv_if_eqB C (pc' := 35) rfl (tgt := 55) (D 16 (32, .ifCond .eq 23, 3) rfl) (by decide) (fun b32 => ?_) (fun b32 => ?_)
        · skip
          have hk00 : k = 0 := by rcases hk0 with h | h; exact h; rw [h] at b32; cases b32
          have hwr : cv_wr L f i d n = some k := by unfold cv_wr; rw [if_neg (by simp [b32]), if_neg (by omega), hk00]
          refine cv_iload C (pc' := 57) rfl (D 28 (55, .iload 5, 2) rfl) (j := 0) rfl ?_
          exact cv_iret C Rt rfl (D 29 (57, .ireturn, 1) rfl) (by rw [hwr]; exact ⟨rfl, hKτ, fun h => by cases h⟩)
        · skip
          refine cv_aload_n C (pc' := 36) rfl (D 17 (35, .aload_n 0, 1) rfl) rfl (j := 1) rfl ?_
          refine cv_get C (pc' := 39) rfl (k0 := 0) (i := 2) (ci := 6) (by decide) rfl rfl (by decide) (o := some 22) rfl iw_X6 wfX6_28 (D 18 (36, .getfield 28, 3) rfl) rfl ?_
          refine cv_aload_n C (pc' := 40) rfl (D 19 (39, .aload_n 1, 1) rfl) rfl (j := 2) rfl ?_
          refine cv_iload_n C (pc' := 41) rfl (D 20 (40, .iload_n 2, 1) rfl) rfl (j := 3) rfl ?_
          refine cv_iload C (pc' := 43) rfl (D 21 (41, .iload 5, 2) rfl) (j := 0) rfl ?_
          refine cv_iaddN C (pc' := 44) rfl (D 22 (43, .iadd, 1) rfl) ?_
          refine cv_iald C (pc' := 45) rfl (k0 := 6 + j) (j := i + k) (cv_lt_c hj) (cv_shC_c hj) rfl (by omega) (by decide) (D 23 (44, .iaload, 1) rfl) (v := nI x) (by rw [hKτ _ (by omega), hf _ (by omega)]; exact ex) ?_
          refine cv_aload_n C (pc' := 46) rfl (D 24 (45, .aload_n 0, 1) rfl) rfl (j := 1) rfl ?_
          refine cv_get C (pc' := 49) rfl (k0 := 0) (i := 1) (ci := 6) (by decide) rfl rfl (by decide) (o := some 10) rfl iw_X6 wfX6_21 (D 25 (46, .getfield 21, 3) rfl) rfl ?_
          refine cv_callV C (pc' := 52) rfl (k0 := 22) (ci := 5) (As := [.int (nI x), .ref 10]) (rest := []) (idx := 237) (np := 2) (kX5_takesStep L q x τ hLτ hB hWτ hWB hx6 hx) (by decide) rfl rfl rfl (by decide +kernel) rfl wmX6_237 wi_yX5_takesStep ws_yX5_takesStep wn_X5 wc_yX5_takesStep (by decide) (by decide) (D 26 (49, .invokevirtual 237, 3) rfl) (Nat.le_of_ble_eq_true rfl) rfl (fun w49 u49 h49 => ?_)
          obtain ⟨e1, e2, e3⟩ := h49
          rw [e1]
          show cv_At X _ _ u49 52 _ [.int (cv_b ((cv_st L x q).isSome))]
          refine cv_if_neB C (pc' := 55) rfl (tgt := 58) (D 27 (52, .ifCond .ne 6, 3) rfl) (by decide) (fun b52 => ?_) (fun b52 => ?_)
          · skip
            obtain ⟨q2, hq2⟩ : ∃ q2, cv_st L x q = some q2 := Option.isSome_iff_exists.mp b52
            refine cv_iincN C (pc' := 61) rfl (D 30 (58, .iinc 5 1, 3) rfl) (j := 0) rfl (by decide) (lv' := [(5, .int (nI (k + 1))), (0, .ref 0), (1, .ref (6 + j)), (2, .int (nI i)), (3, .int (nI n)), (4, .int (cv_b ((L 6 0).testBit d)))]) rfl ?_
            refine cv_goto C (tgt := 24) (D 31 (61, .goto (-37), 3) rfl) (by decide) ?_
            exact ih24 (k + 1) q2 u49 (by omega) (by simp only [cv_ru]; rw [hq]; dsimp only; rw [cv_nt, ex, nI_clamp (by omega)]; exact hq2) (e3 q2 hq2) (fun m hm => (e2 m hm).trans (hKτ m hm)) (Or.inr b32)
          · skip
            refine cv_iload C (pc' := 57) rfl (D 28 (55, .iload 5, 2) rfl) (j := 0) rfl ?_
            exact cv_iret C Rt rfl (D 29 (57, .ireturn, 1) rfl) (by rw [cv_wr_some b32 (by omega) hq (by rw [cv_nt, ex, nI_clamp (by omega)]; cases hs : cv_st L x q with | none => rfl | some q2 => rw [hs] at b52; cases b52)]; exact ⟨rfl, fun m hm => (e2 m hm).trans (hKτ m hm), fun h => by cases h⟩)
  refine cv_pick [0, 2, 3, 4, 5, 1] (lv' := [(5, .int (nI 0)), (0, .ref 0), (1, .ref (6 + j)), (2, .int (nI i)), (3, .int (nI n)), (4, .int (cv_b ((L 6 0).testBit d)))]) rfl ?_
  exact LP24 n 0 (d, 0, 0, 0) σ (by omega) rfl hW (fun _ _ => rfl) (Or.inl rfl)

set_option maxHeartbeats 4000000 in
set_option maxRecDepth 100000 in
theorem kX6_ofWay (o : Option Nat) (q : cv_Q) (v : Nat) (σ : cv_St) (ho : ∀ z, o = some z → z < 2 ^ 31) (hv : v < 5) (hW : o = none → cv_WC q σ) : cv_Ct yX6_ofWay cX6_ofWay 3 (some .int) 0 0 0 26 cv_shC [.ref 0, .int (cv_o o), .int (nI v)] σ (cv_pu (.int (cv_ow o q v)) σ) := by
  refine cv_enter (own := RX6) (by decide) rfl (Nat.le_of_ble_eq_true rfl) ?_
  intro X a C Rt hRm
  have D := @cv_dec _ _ dkX6_ofWay
  show cv_At X _ _ σ 0 [(0, .ref 0), (1, .int (cv_o o)), (2, .int (nI v))] []
  refine cv_iload_n C (pc' := 1) rfl (D 0 (0, .iload_n 2, 1) rfl) rfl (j := 2) rfl ?_
  refine cv_iconst C (pc' := 2) rfl (D 1 (1, .iconst 1, 1) rfl) (v := nI 1) (by decide) ?_
  refine cv_icmp_neN C (pc' := 5) rfl (by omega) (by omega) (tgt := 7) (D 2 (2, .if_icmp .ne 5, 3) rfl) (by decide) (fun b2 => ?_) (fun b2 => ?_)
  · skip
    refine cv_iload_n C (pc' := 8) rfl (D 5 (7, .iload_n 1, 1) rfl) rfl (j := 1) rfl ?_
    refine cv_bipush C (pc' := 10) rfl (D 6 (8, .bipush (-9), 2) rfl) (v := -9) (by decide) ?_
    refine cv_icmp_eqO C (pc' := 13) rfl ho (tgt := 18) (D 7 (10, .if_icmp .eq 8, 3) rfl) (by decide) (fun b10 => ?_) (fun z10 b10 => ?_)
    · skip
      have hW := hW b10
      refine cv_iload_n C (pc' := 19) rfl (D 12 (18, .iload_n 2, 1) rfl) rfl (j := 2) rfl ?_
      have hv9 : v = 0 ∨ v = 2 ∨ v = 3 ∨ v = 4 := by omega
      rcases hv9 with hv9 | hv9 | hv9 | hv9
      · skip
        refine cv_top (w := nI 0) (congrArg nI hv9) ?_
        refine cv_tableIn C (D 13 (19, .tableswitch 53 0 3 #[29, 53, 37, 45], 29) rfl) (tgt := 48) (by decide) (by decide) rfl (by decide) ?_
        refine cv_aload_n C (pc' := 49) rfl (D 14 (48, .aload_n 0, 1) rfl) rfl (j := 0) rfl ?_
        refine cv_get C (pc' := 52) rfl (k0 := 0) (i := 2) (ci := 6) (by decide) rfl rfl (by decide) (o := some 22) rfl iw_X6 wfX6_28 (D 15 (49, .getfield 28, 3) rfl) rfl ?_
        refine cv_get C (pc' := 55) rfl (k0 := 22) (i := 0) (ci := 5) (by decide) rfl rfl (by decide) (o := none) rfl iw_X5 wfX6_231 (D 16 (52, .getfield 231, 3) rfl) (v := .int (nI q.1)) (congrArg Value.int hW.1) ?_
        exact cv_iret C Rt rfl (D 17 (55, .ireturn, 1) rfl) ⟨congrArg (fun z => some (Value.int z)) (by unfold cv_ow; rw [if_neg b2, b10]; simp [hv9]), rfl⟩
      · skip
        refine cv_top (w := nI 2) (congrArg nI hv9) ?_
        refine cv_tableIn C (D 13 (19, .tableswitch 53 0 3 #[29, 53, 37, 45], 29) rfl) (tgt := 56) (by decide) (by decide) rfl (by decide) ?_
        refine cv_aload_n C (pc' := 57) rfl (D 18 (56, .aload_n 0, 1) rfl) rfl (j := 0) rfl ?_
        refine cv_get C (pc' := 60) rfl (k0 := 0) (i := 2) (ci := 6) (by decide) rfl rfl (by decide) (o := some 22) rfl iw_X6 wfX6_28 (D 19 (57, .getfield 28, 3) rfl) rfl ?_
        refine cv_get C (pc' := 63) rfl (k0 := 22) (i := 3) (ci := 5) (by decide) rfl rfl (by decide) (o := none) rfl iw_X5 wfX6_241 (D 20 (60, .getfield 241, 3) rfl) (v := .int (nI q.2.2.2)) (congrArg Value.int hW.2.2.2) ?_
        exact cv_iret C Rt rfl (D 21 (63, .ireturn, 1) rfl) ⟨congrArg (fun z => some (Value.int z)) (by unfold cv_ow; rw [if_neg b2, b10]; simp [hv9]), rfl⟩
      · skip
        refine cv_top (w := nI 3) (congrArg nI hv9) ?_
        refine cv_tableIn C (D 13 (19, .tableswitch 53 0 3 #[29, 53, 37, 45], 29) rfl) (tgt := 64) (by decide) (by decide) rfl (by decide) ?_
        refine cv_aload_n C (pc' := 65) rfl (D 22 (64, .aload_n 0, 1) rfl) rfl (j := 0) rfl ?_
        refine cv_get C (pc' := 68) rfl (k0 := 0) (i := 2) (ci := 6) (by decide) rfl rfl (by decide) (o := some 22) rfl iw_X6 wfX6_28 (D 23 (65, .getfield 28, 3) rfl) rfl ?_
        refine cv_get C (pc' := 71) rfl (k0 := 22) (i := 1) (ci := 5) (by decide) rfl rfl (by decide) (o := none) rfl iw_X5 wfX6_244 (D 24 (68, .getfield 244, 3) rfl) (v := .int (nI q.2.1)) (congrArg Value.int hW.2.1) ?_
        exact cv_iret C Rt rfl (D 25 (71, .ireturn, 1) rfl) ⟨congrArg (fun z => some (Value.int z)) (by unfold cv_ow; rw [if_neg b2, b10]; simp [hv9]), rfl⟩
      · skip
        refine cv_top (w := nI 4) (congrArg nI hv9) ?_
        refine cv_tableOut C (D 13 (19, .tableswitch 53 0 3 #[29, 53, 37, 45], 29) rfl) (tgt := 72) (by decide) (by decide) ?_
        refine cv_aload_n C (pc' := 73) rfl (D 26 (72, .aload_n 0, 1) rfl) rfl (j := 0) rfl ?_
        refine cv_get C (pc' := 76) rfl (k0 := 0) (i := 2) (ci := 6) (by decide) rfl rfl (by decide) (o := some 22) rfl iw_X6 wfX6_28 (D 27 (73, .getfield 28, 3) rfl) rfl ?_
        refine cv_get C (pc' := 79) rfl (k0 := 22) (i := 2) (ci := 5) (by decide) rfl rfl (by decide) (o := none) rfl iw_X5 wfX6_247 (D 28 (76, .getfield 247, 3) rfl) (v := .int (nI q.2.2.1)) (congrArg Value.int hW.2.2.1) ?_
        exact cv_iret C Rt rfl (D 29 (79, .ireturn, 1) rfl) ⟨congrArg (fun z => some (Value.int z)) (by unfold cv_ow; rw [if_neg b2, b10]; simp [hv9]), rfl⟩
    · skip
      have ez10 : cv_o o = nI z10 := by rw [b10]; rfl
      rw [ez10]
      refine cv_bipush C (pc' := 15) rfl (D 8 (13, .bipush (-100), 2) rfl) (v := -100) (by decide) ?_
      refine cv_iload_n C (pc' := 16) rfl (D 9 (15, .iload_n 1, 1) rfl) rfl (j := 1) rfl ?_
      refine cv_isub C (pc' := 17) rfl (D 10 (16, .isub, 1) rfl) ?_
      exact cv_iret C Rt rfl (D 11 (17, .ireturn, 1) rfl) ⟨congrArg (fun z => some (Value.int z)) (by unfold cv_ow; rw [if_neg b2, b10]), rfl⟩
  · skip
    refine cv_iload_n C (pc' := 6) rfl (D 3 (5, .iload_n 1, 1) rfl) rfl (j := 1) rfl ?_
    exact cv_iret C Rt rfl (D 4 (6, .ireturn, 1) rfl) ⟨congrArg (fun z => some (Value.int z)) (by unfold cv_ow; rw [if_pos b2]), rfl⟩

set_option maxHeartbeats 4000000 in
set_option maxRecDepth 100000 in
theorem pX6_way (tr : Int32) (ft : Nat) (sl : Nat → Option (Nat × Nat)) (sc : Nat → Nat → Int32) (L : cv_L) (rc : Nat) (rd : Nat → Nat) (rn : Nat → Option Nat) (x y z w t v0 : Int32) (σ : cv_St) (hR : cv_RC tr ft sl sc L rc rd rn σ) (hB : cv_LB L) (hDB : cv_DB rc rd rn) : cv_Ct yX6_way cX6_way 9 (some .int) 5 0 0 26 cv_shC [.ref 0, .int x, .int y, .int z, .int w, .int t, .int v0] σ (fun v u => v = some (.int (cv_a_way sl sc L x y z w t v0)) ∧ cv_RC tr (cv_f_way sl x y z w t v0) sl sc L rc rd rn u) := by
  refine cv_enter (own := RX6) (by decide) rfl (Nat.le_of_ble_eq_true rfl) ?_
  intro X a C Rt hRm
  have D := @cv_dec _ _ dkX6_way
  obtain ⟨hTr, hFt, hSh, hL, hSe, hD⟩ := id hR
  have hn6 := hB.1
  have hrc := hDB.1
  show cv_At X _ _ σ 0 [(0, .ref 0), (1, .int x), (2, .int y), (3, .int z), (4, .int w), (5, .int t), (6, .int v0)] []
  refine cv_aload_n C (pc' := 1) rfl (D 0 (0, .aload_n 0, 1) rfl) rfl (j := 0) rfl ?_
  refine cv_iconst C (pc' := 2) rfl (D 1 (1, .iconst 0, 1) rfl) (v := nI 0) (by decide) ?_
  refine cv_put C (pc' := 5) rfl (k0 := 0) (i := 5) (ci := 6) (by decide) rfl rfl (by decide) rfl iw_X6 tyX6 tyX6_ok nmX6 wfX6_39 rfl rfl rfl (D 2 (2, .putfield 39, 3) rfl) ?_
  refine cv_iload_n C (pc' := 6) rfl (D 3 (5, .iload_n 1, 1) rfl) rfl (j := 1) rfl ?_
  refine cv_callS C (pc' := 9) rfl (As := [.int x]) (rest := []) (idx := 108) (np := 1) (kX6_isDay x (cv_u σ 0 5 (nI 0))) (by decide +kernel) rfl wmX6_108 wt_yX6_isDay wn_X6 wc_yX6_isDay (by decide) (by decide) (D 4 (6, .invokestatic 108, 3) rfl) (Nat.le_of_ble_eq_true rfl) rfl (fun w9 u9 h9 => ?_)
  rw [h9.1, h9.2]
  show cv_At X _ _ (cv_u σ 0 5 (nI 0)) 9 _ [.int (cv_b (cv_in x 8))]
  refine cv_if_neB C (pc' := 12) rfl (tgt := 15) (D 5 (9, .ifCond .ne 6, 3) rfl) (by decide) (fun b9 => ?_) (fun b9 => ?_)
  · skip
    refine cv_iload_n C (pc' := 16) rfl (D 8 (15, .iload_n 2, 1) rfl) rfl (j := 2) rfl ?_
    refine cv_callS C (pc' := 19) rfl (As := [.int y]) (rest := []) (idx := 43) (np := 1) (kX6_isSheet y (cv_u σ 0 5 (nI 0))) (by decide +kernel) rfl wmX6_43 wt_yX6_isSheet wn_X6 wc_yX6_isSheet (by decide) (by decide) (D 9 (16, .invokestatic 43, 3) rfl) (Nat.le_of_ble_eq_true rfl) rfl (fun w9 u9 h9 => ?_)
    rw [h9.1, h9.2]
    show cv_At X _ _ (cv_u σ 0 5 (nI 0)) 19 _ [.int (cv_b (cv_in y 4))]
    refine cv_if_neB C (pc' := 22) rfl (tgt := 24) (D 10 (19, .ifCond .ne 5, 3) rfl) (by decide) (fun b19 => ?_) (fun b19 => ?_)
    · skip
      refine cv_iload_n C (pc' := 25) rfl (D 13 (24, .iload_n 3, 1) rfl) rfl (j := 3) rfl ?_
      refine cv_callS C (pc' := 28) rfl (As := [.int z]) (rest := []) (idx := 47) (np := 1) (kX6_isLane z (cv_u σ 0 5 (nI 0))) (by decide +kernel) rfl wmX6_47 wt_yX6_isLane wn_X6 wc_yX6_isLane (by decide) (by decide) (D 14 (25, .invokestatic 47, 3) rfl) (Nat.le_of_ble_eq_true rfl) rfl (fun w9 u9 h9 => ?_)
      rw [h9.1, h9.2]
      show cv_At X _ _ (cv_u σ 0 5 (nI 0)) 28 _ [.int (cv_b (cv_in z 3))]
      refine cv_if_eqB C (pc' := 31) rfl (tgt := 50) (D 15 (28, .ifCond .eq 22, 3) rfl) (by decide) (fun b28 => ?_) (fun b28 => ?_)
      · skip
        refine cv_bipush C (pc' := 52) rfl (D 24 (50, .bipush (-2), 2) rfl) (v := -2) (by decide) ?_
        exact cv_iret C Rt rfl (D 25 (52, .ireturn, 1) rfl) ⟨congrArg (fun z => some (Value.int z)) (by unfold cv_a_way; rw [if_pos b9, if_pos b19, if_neg (by simp [b28])]), by unfold cv_f_way; rw [if_neg (by simp [b28])]; exact cv_RC_f _ hR⟩
      · skip
        refine cv_iload C (pc' := 33) rfl (D 16 (31, .iload 5, 2) rfl) (j := 5) rfl ?_
        refine cv_bipush C (pc' := 35) rfl (D 17 (33, .bipush 21, 2) rfl) (v := nI 21) (by decide) ?_
        refine cv_callS C (pc' := 38) rfl (As := [.int t, .int (nI 21)]) (rest := []) (idx := 111) (np := 2) (kX6_isBelow t 21 (cv_u σ 0 5 (nI 0))) (by decide +kernel) rfl wmX6_111 wt_yX6_isBelow wn_X6 wc_yX6_isBelow (by decide) (by decide) (D 18 (35, .invokestatic 111, 3) rfl) (Nat.le_of_ble_eq_true rfl) rfl (fun w9 u9 h9 => ?_)
        rw [h9.1, h9.2]
        show cv_At X _ _ (cv_u σ 0 5 (nI 0)) 38 _ [.int (cv_b (cv_in t 21))]
        refine cv_if_eqB C (pc' := 41) rfl (tgt := 50) (D 19 (38, .ifCond .eq 12, 3) rfl) (by decide) (fun b38 => ?_) (fun b38 => ?_)
        · skip
          refine cv_bipush C (pc' := 52) rfl (D 24 (50, .bipush (-2), 2) rfl) (v := -2) (by decide) ?_
          exact cv_iret C Rt rfl (D 25 (52, .ireturn, 1) rfl) ⟨congrArg (fun z => some (Value.int z)) (by unfold cv_a_way; rw [if_pos b9, if_pos b19, if_neg (by simp [b38])]), by unfold cv_f_way; rw [if_neg (by simp [b38])]; exact cv_RC_f _ hR⟩
        · skip
          refine cv_iload C (pc' := 43) rfl (D 20 (41, .iload 6, 2) rfl) (j := 6) rfl ?_
          refine cv_iconst C (pc' := 44) rfl (D 21 (43, .iconst 5, 1) rfl) (v := nI 5) (by decide) ?_
          refine cv_callS C (pc' := 47) rfl (As := [.int v0, .int (nI 5)]) (rest := []) (idx := 111) (np := 2) (kX6_isBelow v0 5 (cv_u σ 0 5 (nI 0))) (by decide +kernel) rfl wmX6_111 wt_yX6_isBelow wn_X6 wc_yX6_isBelow (by decide) (by decide) (D 22 (44, .invokestatic 111, 3) rfl) (Nat.le_of_ble_eq_true rfl) rfl (fun w9 u9 h9 => ?_)
          rw [h9.1, h9.2]
          show cv_At X _ _ (cv_u σ 0 5 (nI 0)) 47 _ [.int (cv_b (cv_in v0 5))]
          refine cv_if_neB C (pc' := 50) rfl (tgt := 53) (D 23 (47, .ifCond .ne 6, 3) rfl) (by decide) (fun b47 => ?_) (fun b47 => ?_)
          · skip
            obtain ⟨j, hj, rfl⟩ := cv_in_of b9 (by omega)
            obtain ⟨k, hk, rfl⟩ := cv_in_of b19 (by omega)
            have hfb := cv_fo_le (sl k) z w t
            refine cv_aload_n C (pc' := 54) rfl (D 26 (53, .aload_n 0, 1) rfl) rfl (j := 0) rfl ?_
            refine cv_get C (pc' := 57) rfl (k0 := 0) (i := 0) (ci := 6) (by decide) rfl rfl (by decide) (o := some 1) rfl iw_X6 wfX6_13 (D 27 (54, .getfield 13, 3) rfl) rfl ?_
            refine cv_iload_n C (pc' := 58) rfl (D 28 (57, .iload_n 2, 1) rfl) rfl (j := 2) rfl ?_
            refine cv_aald C (pc' := 59) rfl (k0 := 1) (j := k) (r := 2 + k) (by decide) rfl rfl rfl (cv_ix_s hk) (by decide) (D 29 (58, .aaload, 1) rfl) ?_
            refine cv_iload_n C (pc' := 60) rfl (D 30 (59, .iload_n 3, 1) rfl) rfl (j := 3) rfl ?_
            refine cv_iload C (pc' := 62) rfl (D 31 (60, .iload 4, 2) rfl) (j := 4) rfl ?_
            refine cv_iload C (pc' := 64) rfl (D 32 (62, .iload 5, 2) rfl) (j := 5) rfl ?_
            refine cv_callV C (pc' := 67) rfl (k0 := 2 + k) (ci := 3) (As := [.int z, .int w, .int t]) (rest := []) (idx := 50) (np := 3) (kX3_faultOf k (sl k) z w t (cv_u σ 0 5 (nI 0)) hk (by rw [cv_u_0k (by omega)]; exact (hSh k hk).1)) (cv_lt_s hk) (cv_shC_s hk) rfl rfl (by decide +kernel) rfl wmX6_50 wi_yX3_faultOf ws_yX3_faultOf wn_X3 wc_yX3_faultOf (by decide) (by decide) (D 33 (64, .invokevirtual 50, 3) rfl) (Nat.le_of_ble_eq_true rfl) rfl (fun w9 u9 h9 => ?_)
            rw [h9.1, h9.2]
            show cv_At X _ _ (cv_u σ 0 5 (nI 0)) 67 _ [.int (nI (cv_fo (sl k) z w t))]
            refine cv_istore C (pc' := 69) rfl (D 34 (67, .istore 7, 2) rfl) (by decide) (lv' := [(7, .int (nI (cv_fo (sl k) z w t))), (0, .ref 0), (1, .int (nI j)), (2, .int (nI k)), (3, .int z), (4, .int w), (5, .int t), (6, .int v0)]) rfl ?_
            refine cv_iload C (pc' := 71) rfl (D 35 (69, .iload 7, 2) rfl) (j := 0) rfl ?_
            refine cv_if_eqN C (pc' := 74) rfl (by omega) (tgt := 81) (D 36 (71, .ifCond .eq 10, 3) rfl) (by decide) (fun b71 => ?_) (fun b71 => ?_)
            · skip
              refine cv_aload_n C (pc' := 82) rfl (D 41 (81, .aload_n 0, 1) rfl) rfl (j := 1) rfl ?_
              refine cv_get C (pc' := 85) rfl (k0 := 0) (i := 1) (ci := 6) (by decide) rfl rfl (by decide) (o := some 10) rfl iw_X6 wfX6_21 (D 42 (82, .getfield 21, 3) rfl) rfl ?_
              refine cv_get C (pc' := 88) rfl (k0 := 10) (i := 5) (ci := 0) (by decide) rfl rfl (by decide) (o := none) rfl iw_X0 wfX6_115 (D 43 (85, .getfield 115, 3) rfl) (v := .int (cv_b (decide (0 < L 7 0)))) (congrArg Value.int ((congrFun (cv_u_c (by omega)) _).trans hSe)) ?_
              refine cv_if_neB C (pc' := 91) rfl (tgt := 94) (D 44 (88, .ifCond .ne 6, 3) rfl) (by decide) (fun b88 => ?_) (fun b88 => ?_)
              · skip
                obtain ⟨q0, hq0, -, hyh⟩ := cv_fo_0 b71
                have hS1 := (hSh k hk).1
                rw [hq0] at hS1
                obtain ⟨i, n, ei, en, hin⟩ := cv_hs_of hS1.2.2.2 hyh
                have h60 := hS1.2.2.2
                subst ei
                subst en
                obtain ⟨m, hm, rfl⟩ := cv_in_of b47 (by decide)
                have hSc := (hSh k hk).2 (by rw [hq0]; rfl)
                have hLz : cv_LC L (cv_u σ 0 5 (nI 0)) := cv_LC_0 hL hB
                refine cv_aload_n C (pc' := 95) rfl (D 47 (94, .aload_n 0, 1) rfl) rfl (j := 1) rfl ?_
                refine cv_aload_n C (pc' := 96) rfl (D 48 (95, .aload_n 0, 1) rfl) rfl (j := 1) rfl ?_
                refine cv_get C (pc' := 99) rfl (k0 := 0) (i := 0) (ci := 6) (by decide) rfl rfl (by decide) (o := some 1) rfl iw_X6 wfX6_13 (D 49 (96, .getfield 13, 3) rfl) rfl ?_
                refine cv_iload_n C (pc' := 100) rfl (D 50 (99, .iload_n 2, 1) rfl) rfl (j := 3) rfl ?_
                refine cv_aald C (pc' := 101) rfl (k0 := 1) (j := k) (r := 2 + k) (by decide) rfl rfl rfl (cv_ix_s hk) (by decide) (D 51 (100, .aaload, 1) rfl) ?_
                refine cv_get C (pc' := 104) rfl (k0 := 2 + k) (i := 0) (ci := 3) (cv_lt_s hk) (cv_shC_s hk) rfl (by decide) (o := some (6 + k)) rfl iw_X3 wfX6_60 (D 52 (101, .getfield 60, 3) rfl) rfl ?_
                refine cv_iload C (pc' := 106) rfl (D 53 (104, .iload 4, 2) rfl) (j := 5) rfl ?_
                refine cv_iload C (pc' := 108) rfl (D 54 (106, .iload 5, 2) rfl) (j := 6) rfl ?_
                refine cv_callV C (pc' := 111) rfl (k0 := 0) (ci := 6) (As := [.ref (6 + k), .int (nI i), .int (nI n)]) (rest := []) (idx := 141) (np := 3) (kX6_refusalOfSteps L (sc k) k i n (cv_u σ 0 5 (nI 0)) hLz hB hk (by omega) (fun q hq => by rw [cv_u_0k (by omega)]; exact hSc q hq)) (by decide) rfl rfl rfl (by decide +kernel) rfl wmX6_141 wi_yX6_refusalOfSteps ws_yX6_refusalOfSteps wn_X6 wc_yX6_refusalOfSteps (by decide) (by decide) (D 55 (108, .invokevirtual 141, 3) rfl) (Nat.le_of_ble_eq_true rfl) rfl (fun w9 u9 h9 => ?_)
                rw [h9.1, h9.2]
                show cv_At X _ _ (cv_u σ 0 5 (nI 0)) 111 _ [.int (cv_rs L (sc k) i n)]
                refine cv_istore C (pc' := 113) rfl (D 56 (111, .istore 8, 2) rfl) (by decide) (lv' := [(8, .int (cv_rs L (sc k) i n)), (7, .int (nI (cv_fo (sl k) z (nI i) (nI n)))), (0, .ref 0), (1, .int (nI j)), (2, .int (nI k)), (3, .int z), (4, .int (nI i)), (5, .int (nI n)), (6, .int (nI m))]) rfl ?_
                refine cv_iload C (pc' := 115) rfl (D 57 (113, .iload 8, 2) rfl) (j := 0) rfl ?_
                refine cv_if_eq C (pc' := 118) rfl (tgt := 121) (D 58 (115, .ifCond .eq 6, 3) rfl) (by decide) (fun b115 => ?_) (fun b115 => ?_)
                · skip
                  refine cv_aload_n C (pc' := 122) rfl (D 61 (121, .aload_n 0, 1) rfl) rfl (j := 2) rfl ?_
                  refine cv_get C (pc' := 125) rfl (k0 := 0) (i := 2) (ci := 6) (by decide) rfl rfl (by decide) (o := some 22) rfl iw_X6 wfX6_28 (D 62 (122, .getfield 28, 3) rfl) rfl ?_
                  refine cv_iload_n C (pc' := 126) rfl (D 63 (125, .iload_n 1, 1) rfl) rfl (j := 3) rfl ?_
                  refine cv_callV C (pc' := 129) rfl (k0 := 22) (ci := 5) (As := [.int (nI j)]) (rest := []) (idx := 145) (np := 1) (kX5_begin j (cv_u σ 0 5 (nI 0))) (by decide) rfl rfl rfl (by decide +kernel) rfl wmX6_145 wi_yX5_begin ws_yX5_begin wn_X5 wc_yX5_begin (by decide) (by decide) (D 64 (126, .invokevirtual 145, 3) rfl) (Nat.le_of_ble_eq_true rfl) rfl (fun w126 u126 h126 => ?_)
                  obtain ⟨r1, r2, r3⟩ := h126
                  rw [r1]
                  have hLu : cv_LC L u126 := cv_LC_k (fun q _ _ h => r2 q h) hLz hB
                  show cv_At X _ _ u126 129 _ []
                  refine cv_aload_n C (pc' := 130) rfl (D 65 (129, .aload_n 0, 1) rfl) rfl (j := 2) rfl ?_
                  refine cv_aload_n C (pc' := 131) rfl (D 66 (130, .aload_n 0, 1) rfl) rfl (j := 2) rfl ?_
                  refine cv_aload_n C (pc' := 132) rfl (D 67 (131, .aload_n 0, 1) rfl) rfl (j := 2) rfl ?_
                  refine cv_get C (pc' := 135) rfl (k0 := 0) (i := 0) (ci := 6) (by decide) rfl rfl (by decide) (o := some 1) rfl iw_X6 wfX6_13 (D 68 (132, .getfield 13, 3) rfl) rfl ?_
                  refine cv_iload_n C (pc' := 136) rfl (D 69 (135, .iload_n 2, 1) rfl) rfl (j := 4) rfl ?_
                  refine cv_aald C (pc' := 137) rfl (k0 := 1) (j := k) (r := 2 + k) (by decide) rfl rfl rfl (cv_ix_s hk) (by decide) (D 70 (136, .aaload, 1) rfl) ?_
                  refine cv_get C (pc' := 140) rfl (k0 := 2 + k) (i := 0) (ci := 3) (cv_lt_s hk) (cv_shC_s hk) rfl (by decide) (o := some (6 + k)) rfl iw_X3 wfX6_60 (D 71 (137, .getfield 60, 3) rfl) rfl ?_
                  refine cv_iload C (pc' := 142) rfl (D 72 (140, .iload 4, 2) rfl) (j := 6) rfl ?_
                  refine cv_iload C (pc' := 144) rfl (D 73 (142, .iload 5, 2) rfl) (j := 7) rfl ?_
                  refine cv_callV C (pc' := 147) rfl (k0 := 0) (ci := 6) (As := [.ref (6 + k), .int (nI i), .int (nI n)]) (rest := [.ref 0]) (idx := 148) (np := 3) (kX6_firstWrong L (sc k) k i n j u126 hLu hB hk (by omega) (by omega) (fun q hq => by rw [r2 _ (by omega), cv_u_0k (by omega)]; exact hSc q hq) (cv_rs_0 b115) r3) (by decide) rfl rfl rfl (by decide +kernel) rfl wmX6_148 wi_yX6_firstWrong ws_yX6_firstWrong wn_X6 wc_yX6_firstWrong (by decide) (by decide) (D 74 (144, .invokevirtual 148, 3) rfl) (Nat.le_of_ble_eq_true rfl) rfl (fun w144 u144 h144 => ?_)
                  obtain ⟨e1, e2, e3⟩ := h144
                  rw [e1]
                  show cv_At X _ _ u144 147 _ [.int (cv_o (cv_wr L (sc k) i j n)), .ref 0]
                  refine cv_iload C (pc' := 149) rfl (D 75 (147, .iload 6, 2) rfl) (j := 8) rfl ?_
                  refine cv_callV C (pc' := 152) rfl (k0 := 0) (ci := 6) (As := [.int (cv_o (cv_wr L (sc k) i j n)), .int (nI m)]) (rest := []) (idx := 151) (np := 2) (kX6_ofWay (cv_wr L (sc k) i j n) ((cv_ru L (sc k) i j n).getD (0, 0, 0, 0)) m u144 (fun z h => Nat.lt_trans (cv_wr_lt h) (by omega)) (by omega) (fun h => by obtain ⟨q9, hq9, hW9⟩ := e3 h; rw [hq9]; exact hW9)) (by decide) rfl rfl rfl (by decide +kernel) rfl wmX6_151 wi_yX6_ofWay ws_yX6_ofWay wn_X6 wc_yX6_ofWay (by decide) (by decide) (D 76 (149, .invokevirtual 151, 3) rfl) (Nat.le_of_ble_eq_true rfl) rfl (fun w9 u9 h9 => ?_)
                  rw [h9.1, h9.2]
                  show cv_At X _ _ u144 152 _ [.int (cv_ow (cv_wr L (sc k) i j n) ((cv_ru L (sc k) i j n).getD (0, 0, 0, 0)) m)]
                  exact cv_iret C Rt rfl (D 77 (152, .ireturn, 1) rfl) ⟨congrArg (fun z => some (Value.int z)) (by unfold cv_a_way; rw [if_pos b9, if_pos b19, if_pos ⟨b28, b38, b47⟩]; simp only [cv_nt, nI_clamp (show k < 2 ^ 31 by omega), nI_clamp (show i < 2 ^ 31 by omega), nI_clamp (show n < 2 ^ 31 by omega), nI_clamp (show j < 2 ^ 31 by omega), nI_clamp (show m < 2 ^ 31 by omega)]; rw [if_pos b71, if_pos (by simpa using b88), if_pos b115]), by unfold cv_f_way; rw [if_pos ⟨b9, b19, b28, b38, b47⟩]; simp only [cv_nt, nI_clamp (show k < 2 ^ 31 by omega)]; rw [b71]; exact cv_RC_k (fun q _ _ h => (e2 q h).trans (r2 q h)) hB (cv_RC_f 0 hR)⟩
                · skip
                  refine cv_iload C (pc' := 120) rfl (D 59 (118, .iload 8, 2) rfl) (j := 0) rfl ?_
                  exact cv_iret C Rt rfl (D 60 (120, .ireturn, 1) rfl) ⟨congrArg (fun z => some (Value.int z)) (by unfold cv_a_way; rw [if_pos b9, if_pos b19, if_pos ⟨b28, b38, b47⟩]; simp only [cv_nt, nI_clamp (show k < 2 ^ 31 by omega), nI_clamp (show i < 2 ^ 31 by omega), nI_clamp (show n < 2 ^ 31 by omega)]; rw [if_pos b71, if_pos (by simpa using b88), if_neg (by rw [← nI_0]; exact b115)]), by unfold cv_f_way; rw [if_pos ⟨b9, b19, b28, b38, b47⟩]; simp only [cv_nt, nI_clamp (show k < 2 ^ 31 by omega)]; rw [b71]; exact cv_RC_f _ hR⟩
              · skip
                refine cv_bipush C (pc' := 93) rfl (D 45 (91, .bipush (-3), 2) rfl) (v := -3) (by decide) ?_
                exact cv_iret C Rt rfl (D 46 (93, .ireturn, 1) rfl) ⟨congrArg (fun z => some (Value.int z)) (by unfold cv_a_way; rw [if_pos b9, if_pos b19, if_pos ⟨b28, b38, b47⟩]; simp only [cv_nt, nI_clamp (show k < 2 ^ 31 by omega)]; rw [if_pos b71, if_neg (by simpa using b88)]), by unfold cv_f_way; rw [if_pos ⟨b9, b19, b28, b38, b47⟩]; simp only [cv_nt, nI_clamp (show k < 2 ^ 31 by omega)]; rw [b71]; exact cv_RC_f _ hR⟩
            · skip
              refine cv_aload_n C (pc' := 75) rfl (D 37 (74, .aload_n 0, 1) rfl) rfl (j := 1) rfl ?_
              refine cv_iload C (pc' := 77) rfl (D 38 (75, .iload 7, 2) rfl) (j := 0) rfl ?_
              refine cv_callV C (pc' := 80) rfl (k0 := 0) (ci := 6) (As := [.int (nI (cv_fo (sl k) z w t))]) (rest := []) (idx := 54) (np := 1) (kX6_failed (cv_fo (sl k) z w t) (cv_u σ 0 5 (nI 0))) (by decide) rfl rfl rfl (by decide +kernel) rfl wmX6_54 wi_yX6_failed ws_yX6_failed wn_X6 wc_yX6_failed (by decide) (by decide) (D 39 (77, .invokevirtual 54, 3) rfl) (Nat.le_of_ble_eq_true rfl) rfl (fun w77 u77 h77 => ?_)
              rw [h77.1, h77.2, cv_uu]
              show cv_At X _ _ (cv_u σ 0 5 (nI (cv_fo (sl k) z w t))) 80 _ [.int (-10 - nI (cv_fo (sl k) z w t))]
              exact cv_iret C Rt rfl (D 40 (80, .ireturn, 1) rfl) ⟨congrArg (fun z => some (Value.int z)) (by unfold cv_a_way; rw [if_pos b9, if_pos b19, if_pos ⟨b28, b38, b47⟩]; simp only [cv_nt, nI_clamp (show k < 2 ^ 31 by omega)]; rw [if_neg (by omega)]), by unfold cv_f_way; rw [if_pos ⟨b9, b19, b28, b38, b47⟩]; simp only [cv_nt, nI_clamp (show k < 2 ^ 31 by omega)]; exact cv_RC_f _ hR⟩
          · skip
            refine cv_bipush C (pc' := 52) rfl (D 24 (50, .bipush (-2), 2) rfl) (v := -2) (by decide) ?_
            exact cv_iret C Rt rfl (D 25 (52, .ireturn, 1) rfl) ⟨congrArg (fun z => some (Value.int z)) (by unfold cv_a_way; rw [if_pos b9, if_pos b19, if_neg (by simp [b47])]), by unfold cv_f_way; rw [if_neg (by simp [b47])]; exact cv_RC_f _ hR⟩
    · skip
      refine cv_iconst C (pc' := 23) rfl (D 11 (22, .iconst (-1), 1) rfl) (v := -1) (by decide) ?_
      exact cv_iret C Rt rfl (D 12 (23, .ireturn, 1) rfl) ⟨congrArg (fun z => some (Value.int z)) (by unfold cv_a_way; rw [if_pos b9, if_neg (by simp [b19])]), by unfold cv_f_way; rw [if_neg (by simp [b19])]; exact cv_RC_f _ hR⟩
  · skip
    refine cv_bipush C (pc' := 14) rfl (D 6 (12, .bipush (-2), 2) rfl) (v := -2) (by decide) ?_
    exact cv_iret C Rt rfl (D 7 (14, .ireturn, 1) rfl) ⟨congrArg (fun z => some (Value.int z)) (by unfold cv_a_way; rw [if_neg (by simp [b9])]), by unfold cv_f_way; rw [if_neg (by simp [b9])]; exact cv_RC_f _ hR⟩

