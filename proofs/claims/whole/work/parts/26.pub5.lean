set_option maxHeartbeats 4000000 in
set_option maxRecDepth 100000 in
theorem pX6_sheet (tr : Int32) (ft : Nat) (sl : Nat → Option (Nat × Nat)) (sc : Nat → Nat → Int32) (L : cv_L) (rc : Nat) (rd : Nat → Nat) (rn : Nat → Option Nat) (x y z : Int32) (σ : cv_St) (hR : cv_RC tr ft sl sc L rc rd rn σ) (hB : cv_LB L) (hDB : cv_DB rc rd rn) : cv_Ct yX6_sheet cX6_sheet 4 (some .int) 2 0 0 26 cv_shC [.ref 0, .int x, .int y, .int z] σ (fun v u => v = some (.int (cv_a_sheet x y z)) ∧ (if cv_ok_sheet x y z then cv_RC tr 0 (cv_ss sl (cv_nt x) (some (cv_nt y, cv_nt z))) (cv_ss sc (cv_nt x) (fun _ => 0)) L rc rd rn u else cv_RC tr (cv_f_sheet x y z) sl sc L rc rd rn u)) := by
  refine cv_enter (own := RX6) (by decide) rfl (Nat.le_of_ble_eq_true rfl) ?_
  intro X a C Rt hRm
  have D := @cv_dec _ _ dkX6_sheet
  obtain ⟨hTr, hFt, hSh, hL, hSe, hD⟩ := id hR
  have hn6 := hB.1
  have hrc := hDB.1
  show cv_At X _ _ σ 0 [(0, .ref 0), (1, .int x), (2, .int y), (3, .int z)] []
  refine cv_aload_n C (pc' := 1) rfl (D 0 (0, .aload_n 0, 1) rfl) rfl (j := 0) rfl ?_
  refine cv_iconst C (pc' := 2) rfl (D 1 (1, .iconst 0, 1) rfl) (v := nI 0) (by decide) ?_
  refine cv_put C (pc' := 5) rfl (k0 := 0) (i := 5) (ci := 6) (by decide) rfl rfl (by decide) rfl iw_X6 tyX6 tyX6_ok nmX6 wfX6_39 rfl rfl rfl (D 2 (2, .putfield 39, 3) rfl) ?_
  refine cv_iload_n C (pc' := 6) rfl (D 3 (5, .iload_n 1, 1) rfl) rfl (j := 1) rfl ?_
  refine cv_callS C (pc' := 9) rfl (As := [.int x]) (rest := []) (idx := 43) (np := 1) (kX6_isSheet x (cv_u σ 0 5 (nI 0))) (by decide +kernel) rfl wmX6_43 wt_yX6_isSheet wn_X6 wc_yX6_isSheet (by decide) (by decide) (D 4 (6, .invokestatic 43, 3) rfl) (Nat.le_of_ble_eq_true rfl) rfl (fun w9 u9 h9 => ?_)
  rw [h9.1, h9.2]
  show cv_At X _ _ (cv_u σ 0 5 (nI 0)) 9 _ [.int (cv_b (cv_in x 4))]
  refine cv_if_neB C (pc' := 12) rfl (tgt := 14) (D 5 (9, .ifCond .ne 5, 3) rfl) (by decide) (fun b9 => ?_) (fun b9 => ?_)
  · skip
    refine cv_iload_n C (pc' := 15) rfl (D 8 (14, .iload_n 2, 1) rfl) rfl (j := 2) rfl ?_
    refine cv_callS C (pc' := 18) rfl (As := [.int y]) (rest := []) (idx := 47) (np := 1) (kX6_isLane y (cv_u σ 0 5 (nI 0))) (by decide +kernel) rfl wmX6_47 wt_yX6_isLane wn_X6 wc_yX6_isLane (by decide) (by decide) (D 9 (15, .invokestatic 47, 3) rfl) (Nat.le_of_ble_eq_true rfl) rfl (fun w9 u9 h9 => ?_)
    rw [h9.1, h9.2]
    show cv_At X _ _ (cv_u σ 0 5 (nI 0)) 18 _ [.int (cv_b (cv_in y 3))]
    refine cv_if_eqB C (pc' := 21) rfl (tgt := 27) (D 10 (18, .ifCond .eq 9, 3) rfl) (by decide) (fun b18 => ?_) (fun b18 => ?_)
    · skip
      refine cv_bipush C (pc' := 29) rfl (D 14 (27, .bipush (-2), 2) rfl) (v := -2) (by decide) ?_
      exact cv_iret C Rt rfl (D 15 (29, .ireturn, 1) rfl) ⟨congrArg (fun z => some (Value.int z)) (by unfold cv_a_sheet; rw [if_pos b9, if_neg (by simp [b18])]), by rw [if_neg (fun h => by rw [h.2.1] at b18; cases b18)]; unfold cv_f_sheet; rw [if_neg (by simp [b18])]; exact cv_RC_f _ hR⟩
    · skip
      refine cv_iload_n C (pc' := 22) rfl (D 11 (21, .iload_n 3, 1) rfl) rfl (j := 3) rfl ?_
      refine cv_bipush C (pc' := 24) rfl (D 12 (22, .bipush 60, 2) rfl) (v := nI 60) (by decide) ?_
      refine cv_icmp_le C (pc' := 27) rfl (tgt := 30) (D 13 (24, .if_icmp .le 6, 3) rfl) (by decide) (fun b24 => ?_) (fun b24 => ?_)
      · skip
        refine cv_iload_n C (pc' := 31) rfl (D 16 (30, .iload_n 3, 1) rfl) rfl (j := 3) rfl ?_
        refine cv_if_ge C (pc' := 34) rfl (tgt := 40) (D 17 (31, .ifCond .ge 9, 3) rfl) (by decide) (fun b31 => ?_) (fun b31 => ?_)
        · skip
          have hz61 : cv_in z 61 = true := by
            obtain ⟨q, hq, rfl⟩ := nI_of (Int32.not_lt.mpr b31)
            exact cv_in_nI (by have := (nI_leI hq (by decide)).mp b24; omega) (by decide)
          obtain ⟨j, hj, rfl⟩ := cv_in_of b9 (by omega)
          obtain ⟨w, hw, rfl⟩ := cv_in_of b18 (by omega)
          obtain ⟨q, hq, rfl⟩ := cv_in_of hz61 (by omega)
          refine cv_aload_n C (pc' := 41) rfl (D 22 (40, .aload_n 0, 1) rfl) rfl (j := 0) rfl ?_
          refine cv_get C (pc' := 44) rfl (k0 := 0) (i := 0) (ci := 6) (by decide) rfl rfl (by decide) (o := some 1) rfl iw_X6 wfX6_13 (D 23 (41, .getfield 13, 3) rfl) rfl ?_
          refine cv_iload_n C (pc' := 45) rfl (D 24 (44, .iload_n 1, 1) rfl) rfl (j := 1) rfl ?_
          refine cv_aald C (pc' := 46) rfl (k0 := 1) (j := j) (r := 2 + j) (by decide) rfl rfl rfl (cv_ix_s hj) (by decide) (D 25 (45, .aaload, 1) rfl) ?_
          refine cv_iload_n C (pc' := 47) rfl (D 26 (46, .iload_n 2, 1) rfl) rfl (j := 2) rfl ?_
          refine cv_iload_n C (pc' := 48) rfl (D 27 (47, .iload_n 3, 1) rfl) rfl (j := 3) rfl ?_
          refine cv_callV C (pc' := 51) rfl (k0 := 2 + j) (ci := 3) (As := [.int (nI w), .int (nI q)]) (rest := []) (idx := 192) (np := 2) (kX3_renew j (nI w) (nI q) (cv_u σ 0 5 (nI 0)) hj) (cv_lt_s hj) (cv_shC_s hj) rfl rfl (by decide +kernel) rfl wmX6_192 wi_yX3_renew ws_yX3_renew wn_X3 wc_yX3_renew (by decide) (by decide) (D 28 (48, .invokevirtual 192, 3) rfl) (Nat.le_of_ble_eq_true rfl) rfl (fun w48 u48 h48 => ?_)
          obtain ⟨e48, r1, r2, r3, r4⟩ := h48
          rw [e48]
          show cv_At X _ _ u48 51 _ []
          refine cv_iconst C (pc' := 52) rfl (D 29 (51, .iconst 1, 1) rfl) (v := nI 1) (by decide) ?_
          exact cv_iret C Rt rfl (D 30 (52, .ireturn, 1) rfl) ⟨congrArg (fun z => some (Value.int z)) (by unfold cv_a_sheet; rw [if_pos b9, if_pos ⟨b18, b24⟩, if_neg (Int32.not_lt.mpr b31)]; rfl), by rw [if_pos ⟨b9, b18, hz61⟩]; simp only [cv_nt, nI_clamp (show j < 2 ^ 31 by omega), nI_clamp (show w < 2 ^ 31 by omega), nI_clamp (show q < 2 ^ 31 by omega)]; exact cv_RC_S hB hj r1 ⟨r2, r3, hw, by omega⟩ (fun _ i hi => r4 i hi) (cv_RC_f 0 hR)⟩
        · skip
          refine cv_aload_n C (pc' := 35) rfl (D 18 (34, .aload_n 0, 1) rfl) rfl (j := 0) rfl ?_
          refine cv_iconst C (pc' := 36) rfl (D 19 (35, .iconst 4, 1) rfl) (v := nI 4) (by decide) ?_
          refine cv_callV C (pc' := 39) rfl (k0 := 0) (ci := 6) (As := [.int (nI 4)]) (rest := []) (idx := 54) (np := 1) (kX6_failed 4 (cv_u σ 0 5 (nI 0))) (by decide) rfl rfl rfl (by decide +kernel) rfl wmX6_54 wi_yX6_failed ws_yX6_failed wn_X6 wc_yX6_failed (by decide) (by decide) (D 20 (36, .invokevirtual 54, 3) rfl) (Nat.le_of_ble_eq_true rfl) rfl (fun w36 u36 h36 => ?_)
          rw [h36.1, h36.2, cv_uu]
          show cv_At X _ _ (cv_u σ 0 5 (nI 4)) 39 _ [.int (-10 - nI 4)]
          exact cv_iret C Rt rfl (D 21 (39, .ireturn, 1) rfl) ⟨congrArg (fun z => some (Value.int z)) (by unfold cv_a_sheet; rw [if_pos b9, if_pos ⟨b18, b24⟩, if_pos (Int32.not_le.mp b31)]; decide), by rw [if_neg (fun h => by obtain ⟨q, hq, rfl⟩ := cv_in_of h.2.2 (by decide); exact b31 (nI_pos' (by omega)))]; unfold cv_f_sheet; rw [if_pos ⟨b9, b18, b24, Int32.not_le.mp b31⟩]; exact cv_RC_f _ hR⟩
      · skip
        refine cv_bipush C (pc' := 29) rfl (D 14 (27, .bipush (-2), 2) rfl) (v := -2) (by decide) ?_
        exact cv_iret C Rt rfl (D 15 (29, .ireturn, 1) rfl) ⟨congrArg (fun z => some (Value.int z)) (by unfold cv_a_sheet; rw [if_pos b9, if_neg (fun h => b24 h.2)]), by rw [if_neg (fun h => by obtain ⟨q, hq, rfl⟩ := cv_in_of h.2.2 (by decide); exact b24 (nI_le (by omega) (by decide)))]; unfold cv_f_sheet; rw [if_neg (fun h => b24 h.2.2.1)]; exact cv_RC_f _ hR⟩
  · skip
    refine cv_iconst C (pc' := 13) rfl (D 6 (12, .iconst (-1), 1) rfl) (v := -1) (by decide) ?_
    exact cv_iret C Rt rfl (D 7 (13, .ireturn, 1) rfl) ⟨congrArg (fun z => some (Value.int z)) (by unfold cv_a_sheet; rw [if_neg (by simp [b9])]), by rw [if_neg (fun h => by rw [h.1] at b9; cases b9)]; unfold cv_f_sheet; rw [if_neg (by simp [b9])]; exact cv_RC_f _ hR⟩

set_option maxHeartbeats 4000000 in
set_option maxRecDepth 100000 in
theorem pX6_lose (tr : Int32) (ft : Nat) (sl : Nat → Option (Nat × Nat)) (sc : Nat → Nat → Int32) (L : cv_L) (rc : Nat) (rd : Nat → Nat) (rn : Nat → Option Nat) (x : Int32) (σ : cv_St) (hR : cv_RC tr ft sl sc L rc rd rn σ) (hB : cv_LB L) (hDB : cv_DB rc rd rn) : cv_Ct yX6_lose cX6_lose 3 (some .int) 2 0 0 26 cv_shC [.ref 0, .int x] σ (fun v u => v = some (.int (cv_a_lose sl x)) ∧ (if cv_in x 4 = true then cv_RC tr ft (cv_ss sl (cv_nt x) none) (cv_ss sc (cv_nt x) (fun _ => 0)) L rc rd rn u else cv_RC tr ft sl sc L rc rd rn u)) := by
  refine cv_enter (own := RX6) (by decide) rfl (Nat.le_of_ble_eq_true rfl) ?_
  intro X a C Rt hRm
  have D := @cv_dec _ _ dkX6_lose
  obtain ⟨hTr, hFt, hSh, hL, hSe, hD⟩ := id hR
  have hn6 := hB.1
  have hrc := hDB.1
  show cv_At X _ _ σ 0 [(0, .ref 0), (1, .int x)] []
  refine cv_iload_n C (pc' := 1) rfl (D 0 (0, .iload_n 1, 1) rfl) rfl (j := 1) rfl ?_
  refine cv_callS C (pc' := 4) rfl (As := [.int x]) (rest := []) (idx := 43) (np := 1) (kX6_isSheet x σ) (by decide +kernel) rfl wmX6_43 wt_yX6_isSheet wn_X6 wc_yX6_isSheet (by decide) (by decide) (D 1 (1, .invokestatic 43, 3) rfl) (Nat.le_of_ble_eq_true rfl) rfl (fun w9 u9 h9 => ?_)
  rw [h9.1, h9.2]
  show cv_At X _ _ σ 4 _ [.int (cv_b (cv_in x 4))]
  refine cv_if_neB C (pc' := 7) rfl (tgt := 9) (D 2 (4, .ifCond .ne 5, 3) rfl) (by decide) (fun b4 => ?_) (fun b4 => ?_)
  · skip
    obtain ⟨j, hj, rfl⟩ := cv_in_of b4 (by omega)
    refine cv_aload_n C (pc' := 10) rfl (D 5 (9, .aload_n 0, 1) rfl) rfl (j := 0) rfl ?_
    refine cv_get C (pc' := 13) rfl (k0 := 0) (i := 0) (ci := 6) (by decide) rfl rfl (by decide) (o := some 1) rfl iw_X6 wfX6_13 (D 6 (10, .getfield 13, 3) rfl) rfl ?_
    refine cv_iload_n C (pc' := 14) rfl (D 7 (13, .iload_n 1, 1) rfl) rfl (j := 1) rfl ?_
    refine cv_aald C (pc' := 15) rfl (k0 := 1) (j := j) (r := 2 + j) (by decide) rfl rfl rfl (cv_ix_s hj) (by decide) (D 8 (14, .aaload, 1) rfl) ?_
    refine cv_callV C (pc' := 18) rfl (k0 := 2 + j) (ci := 3) (As := []) (rest := []) (idx := 196) (np := 0) (kX3_hasNothing j (sl j) σ hj (hSh j hj).1) (cv_lt_s hj) (cv_shC_s hj) rfl rfl (by decide +kernel) rfl wmX6_196 wi_yX3_hasNothing ws_yX3_hasNothing wn_X3 wc_yX3_hasNothing (by decide) (by decide) (D 9 (15, .invokevirtual 196, 3) rfl) (Nat.le_of_ble_eq_true rfl) rfl (fun w9 u9 h9 => ?_)
    rw [h9.1, h9.2]
    show cv_At X _ _ σ 18 _ [.int (cv_b ((sl j).isNone))]
    refine cv_if_eqB C (pc' := 21) rfl (tgt := 25) (D 10 (18, .ifCond .eq 7, 3) rfl) (by decide) (fun b18 => ?_) (fun b18 => ?_)
    · skip
      refine cv_iconst C (pc' := 26) rfl (D 13 (25, .iconst 1, 1) rfl) (v := nI 1) (by decide) ?_
      refine cv_istore_n C (pc' := 27) rfl (D 14 (26, .istore_n 2, 1) rfl) rfl (by decide) (lv' := [(2, .int (nI 1)), (0, .ref 0), (1, .int (nI j))]) rfl ?_
      refine cv_aload_n C (pc' := 28) rfl (D 15 (27, .aload_n 0, 1) rfl) rfl (j := 1) rfl ?_
      refine cv_get C (pc' := 31) rfl (k0 := 0) (i := 0) (ci := 6) (by decide) rfl rfl (by decide) (o := some 1) rfl iw_X6 wfX6_13 (D 16 (28, .getfield 13, 3) rfl) rfl ?_
      refine cv_iload_n C (pc' := 32) rfl (D 17 (31, .iload_n 1, 1) rfl) rfl (j := 2) rfl ?_
      refine cv_aald C (pc' := 33) rfl (k0 := 1) (j := j) (r := 2 + j) (by decide) rfl rfl rfl (cv_ix_s hj) (by decide) (D 18 (32, .aaload, 1) rfl) ?_
      refine cv_iconst C (pc' := 34) rfl (D 19 (33, .iconst (-1), 1) rfl) (v := -1) (by decide) ?_
      refine cv_iconst C (pc' := 35) rfl (D 20 (34, .iconst 0, 1) rfl) (v := nI 0) (by decide) ?_
      refine cv_callV C (pc' := 38) rfl (k0 := 2 + j) (ci := 3) (As := [.int (-1), .int (nI 0)]) (rest := []) (idx := 192) (np := 2) (kX3_renew j (-1) (nI 0) σ hj) (cv_lt_s hj) (cv_shC_s hj) rfl rfl (by decide +kernel) rfl wmX6_192 wi_yX3_renew ws_yX3_renew wn_X3 wc_yX3_renew (by decide) (by decide) (D 21 (35, .invokevirtual 192, 3) rfl) (Nat.le_of_ble_eq_true rfl) rfl (fun w35 u35 h35 => ?_)
      obtain ⟨e35, r1, r2, r3, r4⟩ := h35
      rw [e35]
      show cv_At X _ _ u35 38 _ []
      refine cv_iload_n C (pc' := 39) rfl (D 22 (38, .iload_n 2, 1) rfl) rfl (j := 0) rfl ?_
      exact cv_iret C Rt rfl (D 23 (39, .ireturn, 1) rfl) ⟨congrArg (fun z => some (Value.int z)) (by unfold cv_a_lose; rw [if_pos b4, cv_nt, nI_clamp (by omega)]; cases ho : sl j with | none => rw [ho] at b18; cases b18 | some q => rfl), by rw [if_pos b4]; simp only [cv_nt, nI_clamp (show j < 2 ^ 31 by omega)]; exact cv_RC_S hB hj r1 r2 (fun h => by cases h) hR⟩
    · skip
      refine cv_iconst C (pc' := 22) rfl (D 11 (21, .iconst 0, 1) rfl) (v := nI 0) (by decide) ?_
      refine cv_goto C (tgt := 26) (D 12 (22, .goto 4, 3) rfl) (by decide) ?_
      refine cv_istore_n C (pc' := 27) rfl (D 14 (26, .istore_n 2, 1) rfl) rfl (by decide) (lv' := [(2, .int (nI 0)), (0, .ref 0), (1, .int (nI j))]) rfl ?_
      refine cv_aload_n C (pc' := 28) rfl (D 15 (27, .aload_n 0, 1) rfl) rfl (j := 1) rfl ?_
      refine cv_get C (pc' := 31) rfl (k0 := 0) (i := 0) (ci := 6) (by decide) rfl rfl (by decide) (o := some 1) rfl iw_X6 wfX6_13 (D 16 (28, .getfield 13, 3) rfl) rfl ?_
      refine cv_iload_n C (pc' := 32) rfl (D 17 (31, .iload_n 1, 1) rfl) rfl (j := 2) rfl ?_
      refine cv_aald C (pc' := 33) rfl (k0 := 1) (j := j) (r := 2 + j) (by decide) rfl rfl rfl (cv_ix_s hj) (by decide) (D 18 (32, .aaload, 1) rfl) ?_
      refine cv_iconst C (pc' := 34) rfl (D 19 (33, .iconst (-1), 1) rfl) (v := -1) (by decide) ?_
      refine cv_iconst C (pc' := 35) rfl (D 20 (34, .iconst 0, 1) rfl) (v := nI 0) (by decide) ?_
      refine cv_callV C (pc' := 38) rfl (k0 := 2 + j) (ci := 3) (As := [.int (-1), .int (nI 0)]) (rest := []) (idx := 192) (np := 2) (kX3_renew j (-1) (nI 0) σ hj) (cv_lt_s hj) (cv_shC_s hj) rfl rfl (by decide +kernel) rfl wmX6_192 wi_yX3_renew ws_yX3_renew wn_X3 wc_yX3_renew (by decide) (by decide) (D 21 (35, .invokevirtual 192, 3) rfl) (Nat.le_of_ble_eq_true rfl) rfl (fun w35 u35 h35 => ?_)
      obtain ⟨e35, r1, r2, r3, r4⟩ := h35
      rw [e35]
      show cv_At X _ _ u35 38 _ []
      refine cv_iload_n C (pc' := 39) rfl (D 22 (38, .iload_n 2, 1) rfl) rfl (j := 0) rfl ?_
      exact cv_iret C Rt rfl (D 23 (39, .ireturn, 1) rfl) ⟨congrArg (fun z => some (Value.int z)) (by unfold cv_a_lose; rw [if_pos b4, cv_nt, nI_clamp (by omega)]; cases ho : sl j with | none => rfl | some q => rw [ho] at b18; cases b18), by rw [if_pos b4]; simp only [cv_nt, nI_clamp (show j < 2 ^ 31 by omega)]; exact cv_RC_S hB hj r1 r2 (fun h => by cases h) hR⟩
  · skip
    refine cv_iconst C (pc' := 8) rfl (D 3 (7, .iconst (-1), 1) rfl) (v := -1) (by decide) ?_
    exact cv_iret C Rt rfl (D 4 (8, .ireturn, 1) rfl) ⟨congrArg (fun z => some (Value.int z)) (by unfold cv_a_lose; rw [if_neg (by simp [b4])]), by rw [if_neg (by simp [b4])]; exact hR⟩

theorem cv_u_row {σ : cv_St} {k i i2 : Nat} {v : Int32} {f : Nat → Int32} (h : σ k i2 = f i2) : cv_u σ k i v k i2 = upd f i v i2 := by
  rw [cv_u, cv_uc_s]
  unfold upd
  split
  · rfl
  · exact h
theorem cv_ss_id {α : Type} {g : Nat → α} {k : Nat} {v : α} (h : g k = v) (j : Nat) : cv_ss g k v j = g j := by
  by_cases e : j = k
  · subst e; rw [cv_ss_s, h]
  · exact cv_ss_n e
set_option maxHeartbeats 4000000 in
set_option maxRecDepth 100000 in
theorem pX6_put (tr : Int32) (ft : Nat) (sl : Nat → Option (Nat × Nat)) (sc : Nat → Nat → Int32) (L : cv_L) (rc : Nat) (rd : Nat → Nat) (rn : Nat → Option Nat) (x y z : Int32) (σ : cv_St) (hR : cv_RC tr ft sl sc L rc rd rn σ) (hB : cv_LB L) (hDB : cv_DB rc rd rn) : cv_Ct yX6_put cX6_put 6 (some .int) 2 0 0 26 cv_shC [.ref 0, .int x, .int y, .int z] σ (fun v u => v = some (.int (cv_a_put sl x y)) ∧ cv_RC tr (cv_f_put sl x y) sl (cv_n_put sl sc x y z) L rc rd rn u) := by
  refine cv_enter (own := RX6) (by decide) rfl (Nat.le_of_ble_eq_true rfl) ?_
  intro X a C Rt hRm
  have D := @cv_dec _ _ dkX6_put
  obtain ⟨hTr, hFt, hSh, hL, hSe, hD⟩ := id hR
  have hn6 := hB.1
  have hrc := hDB.1
  show cv_At X _ _ σ 0 [(0, .ref 0), (1, .int x), (2, .int y), (3, .int z)] []
  refine cv_aload_n C (pc' := 1) rfl (D 0 (0, .aload_n 0, 1) rfl) rfl (j := 0) rfl ?_
  refine cv_iconst C (pc' := 2) rfl (D 1 (1, .iconst 0, 1) rfl) (v := nI 0) (by decide) ?_
  refine cv_put C (pc' := 5) rfl (k0 := 0) (i := 5) (ci := 6) (by decide) rfl rfl (by decide) rfl iw_X6 tyX6 tyX6_ok nmX6 wfX6_39 rfl rfl rfl (D 2 (2, .putfield 39, 3) rfl) ?_
  refine cv_iload_n C (pc' := 6) rfl (D 3 (5, .iload_n 1, 1) rfl) rfl (j := 1) rfl ?_
  refine cv_callS C (pc' := 9) rfl (As := [.int x]) (rest := []) (idx := 43) (np := 1) (kX6_isSheet x (cv_u σ 0 5 (nI 0))) (by decide +kernel) rfl wmX6_43 wt_yX6_isSheet wn_X6 wc_yX6_isSheet (by decide) (by decide) (D 4 (6, .invokestatic 43, 3) rfl) (Nat.le_of_ble_eq_true rfl) rfl (fun w9 u9 h9 => ?_)
  rw [h9.1, h9.2]
  show cv_At X _ _ (cv_u σ 0 5 (nI 0)) 9 _ [.int (cv_b (cv_in x 4))]
  refine cv_if_neB C (pc' := 12) rfl (tgt := 14) (D 5 (9, .ifCond .ne 5, 3) rfl) (by decide) (fun b9 => ?_) (fun b9 => ?_)
  · skip
    obtain ⟨j, hj, rfl⟩ := cv_in_of b9 (by omega)
    cases hq : sl j with
    | none =>
      have hS1 := (hSh j hj).1
      rw [hq] at hS1
      refine cv_aload_n C (pc' := 15) rfl (D 8 (14, .aload_n 0, 1) rfl) rfl (j := 0) rfl ?_
      refine cv_get C (pc' := 18) rfl (k0 := 0) (i := 0) (ci := 6) (by decide) rfl rfl (by decide) (o := some 1) rfl iw_X6 wfX6_13 (D 9 (15, .getfield 13, 3) rfl) rfl ?_
      refine cv_iload_n C (pc' := 19) rfl (D 10 (18, .iload_n 1, 1) rfl) rfl (j := 1) rfl ?_
      refine cv_aald C (pc' := 20) rfl (k0 := 1) (j := j) (r := 2 + j) (by decide) rfl rfl rfl (cv_ix_s hj) (by decide) (D 11 (19, .aaload, 1) rfl) ?_
      refine cv_astore C (pc' := 22) rfl (D 12 (20, .astore 4, 2) rfl) (by decide) (lv' := [(4, .ref (2 + j)), (0, .ref 0), (1, .int (nI j)), (2, .int y), (3, .int z)]) rfl ?_
      refine cv_aload C (pc' := 24) rfl (D 13 (22, .aload 4, 2) rfl) (j := 0) rfl ?_
      refine cv_aload C (pc' := 26) rfl (D 14 (24, .aload 4, 2) rfl) (j := 0) rfl ?_
      refine cv_get C (pc' := 29) rfl (k0 := 2 + j) (i := 1) (ci := 3) (cv_lt_s hj) (cv_shC_s hj) rfl (by decide) (o := none) rfl iw_X3 wfX6_200 (D 15 (26, .getfield 200, 3) rfl) (v := .int (-1)) (congrArg Value.int ((congrFun (cv_u_c (by omega)) _).trans hS1)) ?_
      refine cv_iload_n C (pc' := 30) rfl (D 16 (29, .iload_n 2, 1) rfl) rfl (j := 3) rfl ?_
      refine cv_iconst C (pc' := 31) rfl (D 17 (30, .iconst 1, 1) rfl) (v := nI 1) (by decide) ?_
      refine cv_callV C (pc' := 34) rfl (k0 := 2 + j) (ci := 3) (As := [.int (-1), .int y, .int (nI 1)]) (rest := []) (idx := 50) (np := 3) (kX3_faultOf j none (-1) y (nI 1) (cv_u σ 0 5 (nI 0)) hj (by rw [cv_u_0k (by omega)]; exact hS1)) (cv_lt_s hj) (cv_shC_s hj) rfl rfl (by decide +kernel) rfl wmX6_50 wi_yX3_faultOf ws_yX3_faultOf wn_X3 wc_yX3_faultOf (by decide) (by decide) (D 18 (31, .invokevirtual 50, 3) rfl) (Nat.le_of_ble_eq_true rfl) rfl (fun w9 u9 h9 => ?_)
      rw [h9.1, h9.2]
      show cv_At X _ _ (cv_u σ 0 5 (nI 0)) 34 _ [.int (nI (cv_fo none (-1) y (nI 1)))]
      refine cv_istore C (pc' := 36) rfl (D 19 (34, .istore 5, 2) rfl) (by decide) (lv' := [(5, .int (nI (cv_fo none (-1) y (nI 1)))), (4, .ref (2 + j)), (0, .ref 0), (1, .int (nI j)), (2, .int y), (3, .int z)]) rfl ?_
      refine cv_iload C (pc' := 38) rfl (D 20 (36, .iload 5, 2) rfl) (j := 0) rfl ?_
      have hfb := cv_fo_le none (-1) y (nI 1)
      refine cv_if_eqN C (pc' := 41) rfl (by omega) (tgt := 48) (D 21 (38, .ifCond .eq 10, 3) rfl) (by decide) (fun b38 => ?_) (fun b38 => ?_)
      · skip
        exact absurd b38 Nat.one_ne_zero
      · skip
        refine cv_aload_n C (pc' := 42) rfl (D 22 (41, .aload_n 0, 1) rfl) rfl (j := 2) rfl ?_
        refine cv_iload C (pc' := 44) rfl (D 23 (42, .iload 5, 2) rfl) (j := 0) rfl ?_
        refine cv_callV C (pc' := 47) rfl (k0 := 0) (ci := 6) (As := [.int (nI (cv_fo none (-1) y (nI 1)))]) (rest := []) (idx := 54) (np := 1) (kX6_failed (cv_fo none (-1) y (nI 1)) (cv_u σ 0 5 (nI 0))) (by decide) rfl rfl rfl (by decide +kernel) rfl wmX6_54 wi_yX6_failed ws_yX6_failed wn_X6 wc_yX6_failed (by decide) (by decide) (D 24 (44, .invokevirtual 54, 3) rfl) (Nat.le_of_ble_eq_true rfl) rfl (fun w44 u44 h44 => ?_)
        rw [h44.1, h44.2, cv_uu]
        show cv_At X _ _ (cv_u σ 0 5 (nI (cv_fo none (-1) y (nI 1)))) 47 _ [.int (-10 - nI (cv_fo none (-1) y (nI 1)))]
        exact cv_iret C Rt rfl (D 25 (47, .ireturn, 1) rfl) ⟨congrArg (fun z => some (Value.int z)) (by unfold cv_a_put; rw [if_pos b9, cv_nt, nI_clamp (show j < 2 ^ 31 by omega), hq]; rfl), by unfold cv_f_put cv_n_put; rw [if_pos b9, if_pos b9, cv_nt, nI_clamp (show j < 2 ^ 31 by omega), hq]; exact cv_RC_f _ hR⟩
    | some q =>
      have hS1 := (hSh j hj).1
      rw [hq] at hS1
      have hq1 := hS1.2.2.1
      have hq2 := hS1.2.2.2
      have hSc := (hSh j hj).2 (by rw [hq]; rfl)
      refine cv_aload_n C (pc' := 15) rfl (D 8 (14, .aload_n 0, 1) rfl) rfl (j := 0) rfl ?_
      refine cv_get C (pc' := 18) rfl (k0 := 0) (i := 0) (ci := 6) (by decide) rfl rfl (by decide) (o := some 1) rfl iw_X6 wfX6_13 (D 9 (15, .getfield 13, 3) rfl) rfl ?_
      refine cv_iload_n C (pc' := 19) rfl (D 10 (18, .iload_n 1, 1) rfl) rfl (j := 1) rfl ?_
      refine cv_aald C (pc' := 20) rfl (k0 := 1) (j := j) (r := 2 + j) (by decide) rfl rfl rfl (cv_ix_s hj) (by decide) (D 11 (19, .aaload, 1) rfl) ?_
      refine cv_astore C (pc' := 22) rfl (D 12 (20, .astore 4, 2) rfl) (by decide) (lv' := [(4, .ref (2 + j)), (0, .ref 0), (1, .int (nI j)), (2, .int y), (3, .int z)]) rfl ?_
      refine cv_aload C (pc' := 24) rfl (D 13 (22, .aload 4, 2) rfl) (j := 0) rfl ?_
      refine cv_aload C (pc' := 26) rfl (D 14 (24, .aload 4, 2) rfl) (j := 0) rfl ?_
      refine cv_get C (pc' := 29) rfl (k0 := 2 + j) (i := 1) (ci := 3) (cv_lt_s hj) (cv_shC_s hj) rfl (by decide) (o := none) rfl iw_X3 wfX6_200 (D 15 (26, .getfield 200, 3) rfl) (v := .int (nI q.1)) (congrArg Value.int ((congrFun (cv_u_c (by omega)) _).trans hS1.1)) ?_
      refine cv_iload_n C (pc' := 30) rfl (D 16 (29, .iload_n 2, 1) rfl) rfl (j := 3) rfl ?_
      refine cv_iconst C (pc' := 31) rfl (D 17 (30, .iconst 1, 1) rfl) (v := nI 1) (by decide) ?_
      refine cv_callV C (pc' := 34) rfl (k0 := 2 + j) (ci := 3) (As := [.int (nI q.1), .int y, .int (nI 1)]) (rest := []) (idx := 50) (np := 3) (kX3_faultOf j (some q) (nI q.1) y (nI 1) (cv_u σ 0 5 (nI 0)) hj (by rw [cv_u_0k (by omega)]; exact hS1)) (cv_lt_s hj) (cv_shC_s hj) rfl rfl (by decide +kernel) rfl wmX6_50 wi_yX3_faultOf ws_yX3_faultOf wn_X3 wc_yX3_faultOf (by decide) (by decide) (D 18 (31, .invokevirtual 50, 3) rfl) (Nat.le_of_ble_eq_true rfl) rfl (fun w9 u9 h9 => ?_)
      rw [h9.1, h9.2]
      show cv_At X _ _ (cv_u σ 0 5 (nI 0)) 34 _ [.int (nI (cv_fo (some q) (nI q.1) y (nI 1)))]
      refine cv_istore C (pc' := 36) rfl (D 19 (34, .istore 5, 2) rfl) (by decide) (lv' := [(5, .int (nI (cv_fo (some q) (nI q.1) y (nI 1)))), (4, .ref (2 + j)), (0, .ref 0), (1, .int (nI j)), (2, .int y), (3, .int z)]) rfl ?_
      refine cv_iload C (pc' := 38) rfl (D 20 (36, .iload 5, 2) rfl) (j := 0) rfl ?_
      have hfp : cv_fo (some q) (nI q.1) y (nI 1) = cv_fp (some q) y := by unfold cv_fo cv_fp; dsimp only; rw [if_pos rfl, if_neg (nI_pos (by decide))]
      have hfb := cv_fo_le (some q) (nI q.1) y (nI 1)
      refine cv_if_eqN C (pc' := 41) rfl (by omega) (tgt := 48) (D 21 (38, .ifCond .eq 10, 3) rfl) (by decide) (fun b38 => ?_) (fun b38 => ?_)
      · skip
        have hyh : cv_hs q.2 y (nI 1) = true := by rw [hfp] at b38; simp only [cv_fp] at b38; split at b38; assumption; cases b38
        obtain ⟨i, t1, hyi, ht1, hit⟩ := cv_hs_of hq2 hyh
        have ht2 := (nI_eq (by decide) (by omega)).mp ht1
        subst hyi
        refine cv_aload C (pc' := 50) rfl (D 26 (48, .aload 4, 2) rfl) (j := 1) rfl ?_
        refine cv_get C (pc' := 53) rfl (k0 := 2 + j) (i := 0) (ci := 3) (cv_lt_s hj) (cv_shC_s hj) rfl (by decide) (o := some (6 + j)) rfl iw_X3 wfX6_60 (D 27 (50, .getfield 60, 3) rfl) rfl ?_
        refine cv_iload_n C (pc' := 54) rfl (D 28 (53, .iload_n 2, 1) rfl) rfl (j := 4) rfl ?_
        refine cv_aload C (pc' := 56) rfl (D 29 (54, .aload 4, 2) rfl) (j := 1) rfl ?_
        refine cv_iload_n C (pc' := 57) rfl (D 30 (56, .iload_n 3, 1) rfl) rfl (j := 5) rfl ?_
        refine cv_callV C (pc' := 60) rfl (k0 := 2 + j) (ci := 3) (As := [.int z]) (rest := [.int (nI i), .ref (6 + j)]) (idx := 203) (np := 1) (kX3_cut j q z (cv_u σ 0 5 (nI 0)) hj (by rw [cv_u_0k (by omega)]; exact hS1)) (cv_lt_s hj) (cv_shC_s hj) rfl rfl (by decide +kernel) rfl wmX6_203 wi_yX3_cut ws_yX3_cut wn_X3 wc_yX3_cut (by decide) (by decide) (D 31 (57, .invokevirtual 203, 3) rfl) (Nat.le_of_ble_eq_true rfl) rfl (fun w9 u9 h9 => ?_)
        rw [h9.1, h9.2]
        show cv_At X _ _ (cv_u σ 0 5 (nI 0)) 60 _ [.int (cv_ct q.1 z), .int (nI i), .ref (6 + j)]
        refine cv_iast C (pc' := 61) rfl (k0 := 6 + j) (j := i) (cv_lt_c hj) (cv_shC_c hj) rfl (by omega) (by decide) (D 32 (60, .iastore, 1) rfl) ?_
        refine cv_iconst C (pc' := 62) rfl (D 33 (61, .iconst 1, 1) rfl) (v := nI 1) (by decide) ?_
        exact cv_iret C Rt rfl (D 34 (62, .ireturn, 1) rfl) ⟨congrArg (fun z => some (Value.int z)) (by unfold cv_a_put; rw [if_pos b9, cv_nt, nI_clamp (show j < 2 ^ 31 by omega), hq]; rw [if_pos (by rw [← hfp]; exact b38)]; rfl), by unfold cv_f_put cv_n_put; rw [if_pos b9, if_pos b9, cv_nt, nI_clamp (show j < 2 ^ 31 by omega), hq, ← hfp, b38]; dsimp only; rw [if_pos hyh, cv_nt, nI_clamp (show i < 2 ^ 31 by omega)]; exact cv_RC_same (fun k hk => (cv_ss_id hq k).symm) (fun _ _ _ _ _ => rfl) (cv_RC_S hB hj (fun k h1 h2 => cv_u_c h2) (by rw [cv_u_c (by omega), cv_u_0k (by omega)]; exact hS1) (fun _ i2 hi2 => cv_u_row (by rw [cv_u_0k (by omega)]; exact hSc i2 hi2)) (cv_RC_f 0 hR))⟩
      · skip
        have hnh : ¬ cv_hs q.2 y (nI 1) = true := fun h => by rw [hfp] at b38; simp only [cv_fp] at b38; rw [if_pos h] at b38; exact absurd b38 (by decide)
        refine cv_aload_n C (pc' := 42) rfl (D 22 (41, .aload_n 0, 1) rfl) rfl (j := 2) rfl ?_
        refine cv_iload C (pc' := 44) rfl (D 23 (42, .iload 5, 2) rfl) (j := 0) rfl ?_
        refine cv_callV C (pc' := 47) rfl (k0 := 0) (ci := 6) (As := [.int (nI (cv_fo (some q) (nI q.1) y (nI 1)))]) (rest := []) (idx := 54) (np := 1) (kX6_failed (cv_fo (some q) (nI q.1) y (nI 1)) (cv_u σ 0 5 (nI 0))) (by decide) rfl rfl rfl (by decide +kernel) rfl wmX6_54 wi_yX6_failed ws_yX6_failed wn_X6 wc_yX6_failed (by decide) (by decide) (D 24 (44, .invokevirtual 54, 3) rfl) (Nat.le_of_ble_eq_true rfl) rfl (fun w44 u44 h44 => ?_)
        rw [h44.1, h44.2, cv_uu]
        show cv_At X _ _ (cv_u σ 0 5 (nI (cv_fo (some q) (nI q.1) y (nI 1)))) 47 _ [.int (-10 - nI (cv_fo (some q) (nI q.1) y (nI 1)))]
        exact cv_iret C Rt rfl (D 25 (47, .ireturn, 1) rfl) ⟨congrArg (fun z => some (Value.int z)) (by unfold cv_a_put; rw [if_pos b9, cv_nt, nI_clamp (show j < 2 ^ 31 by omega), hq]; rw [if_neg (by rw [← hfp]; omega), hfp]), by unfold cv_f_put cv_n_put; rw [if_pos b9, if_pos b9, cv_nt, nI_clamp (show j < 2 ^ 31 by omega), hq, ← hfp]; dsimp only; rw [if_neg hnh]; exact cv_RC_f _ hR⟩
  · skip
    refine cv_iconst C (pc' := 13) rfl (D 6 (12, .iconst (-1), 1) rfl) (v := -1) (by decide) ?_
    exact cv_iret C Rt rfl (D 7 (13, .ireturn, 1) rfl) ⟨congrArg (fun z => some (Value.int z)) (by unfold cv_a_put; rw [if_neg (by simp [b9])]), by unfold cv_f_put cv_n_put; rw [if_neg (by simp [b9]), if_neg (by simp [b9])]; exact cv_RC_f _ hR⟩

set_option maxHeartbeats 4000000 in
set_option maxRecDepth 100000 in
theorem pX6_cell (tr : Int32) (ft : Nat) (sl : Nat → Option (Nat × Nat)) (sc : Nat → Nat → Int32) (L : cv_L) (rc : Nat) (rd : Nat → Nat) (rn : Nat → Option Nat) (x y z : Int32) (σ : cv_St) (hR : cv_RC tr ft sl sc L rc rd rn σ) (hB : cv_LB L) (hDB : cv_DB rc rd rn) : cv_Ct yX6_cell cX6_cell 5 (some .long) 2 0 0 26 cv_shC [.ref 0, .int x, .int y, .int z] σ (fun v u => v = some (.long (cv_a_cell sl sc x y z)) ∧ cv_RC tr (cv_f_cell sl x y z) sl sc L rc rd rn u) := by
  refine cv_enter (own := RX6) (by decide) rfl (Nat.le_of_ble_eq_true rfl) ?_
  intro X a C Rt hRm
  have D := @cv_dec _ _ dkX6_cell
  obtain ⟨hTr, hFt, hSh, hL, hSe, hD⟩ := id hR
  have hn6 := hB.1
  have hrc := hDB.1
  show cv_At X _ _ σ 0 [(0, .ref 0), (1, .int x), (2, .int y), (3, .int z)] []
  refine cv_aload_n C (pc' := 1) rfl (D 0 (0, .aload_n 0, 1) rfl) rfl (j := 0) rfl ?_
  refine cv_iconst C (pc' := 2) rfl (D 1 (1, .iconst 0, 1) rfl) (v := nI 0) (by decide) ?_
  refine cv_put C (pc' := 5) rfl (k0 := 0) (i := 5) (ci := 6) (by decide) rfl rfl (by decide) rfl iw_X6 tyX6 tyX6_ok nmX6 wfX6_39 rfl rfl rfl (D 2 (2, .putfield 39, 3) rfl) ?_
  refine cv_iload_n C (pc' := 6) rfl (D 3 (5, .iload_n 1, 1) rfl) rfl (j := 1) rfl ?_
  refine cv_callS C (pc' := 9) rfl (As := [.int x]) (rest := []) (idx := 43) (np := 1) (kX6_isSheet x (cv_u σ 0 5 (nI 0))) (by decide +kernel) rfl wmX6_43 wt_yX6_isSheet wn_X6 wc_yX6_isSheet (by decide) (by decide) (D 4 (6, .invokestatic 43, 3) rfl) (Nat.le_of_ble_eq_true rfl) rfl (fun w9 u9 h9 => ?_)
  rw [h9.1, h9.2]
  show cv_At X _ _ (cv_u σ 0 5 (nI 0)) 9 _ [.int (cv_b (cv_in x 4))]
  refine cv_if_eqB C (pc' := 12) rfl (tgt := 19) (D 5 (9, .ifCond .eq 10, 3) rfl) (by decide) (fun b9 => ?_) (fun b9 => ?_)
  · skip
    refine cv_ldc2 C (pc' := 22) rfl wlX6_182 (D 9 (19, .ldc2_w 182, 3) rfl) ?_
    exact cv_lret C Rt (D 10 (22, .lreturn, 1) rfl) ⟨congrArg (fun z => some (Value.long z)) (by unfold cv_a_cell; rw [if_neg (by simp [b9])]), by unfold cv_f_cell; rw [if_neg (by simp [b9])]; exact cv_RC_f _ hR⟩
  · skip
    refine cv_iload_n C (pc' := 13) rfl (D 6 (12, .iload_n 3, 1) rfl) rfl (j := 3) rfl ?_
    refine cv_callS C (pc' := 16) rfl (As := [.int z]) (rest := []) (idx := 47) (np := 1) (kX6_isLane z (cv_u σ 0 5 (nI 0))) (by decide +kernel) rfl wmX6_47 wt_yX6_isLane wn_X6 wc_yX6_isLane (by decide) (by decide) (D 7 (13, .invokestatic 47, 3) rfl) (Nat.le_of_ble_eq_true rfl) rfl (fun w9 u9 h9 => ?_)
    rw [h9.1, h9.2]
    show cv_At X _ _ (cv_u σ 0 5 (nI 0)) 16 _ [.int (cv_b (cv_in z 3))]
    refine cv_if_neB C (pc' := 19) rfl (tgt := 23) (D 8 (16, .ifCond .ne 7, 3) rfl) (by decide) (fun b16 => ?_) (fun b16 => ?_)
    · skip
      obtain ⟨j, hj, rfl⟩ := cv_in_of b9 (by omega)
      cases hq : sl j with
      | none =>
        have hS1 := (hSh j hj).1
        rw [hq] at hS1
        refine cv_aload_n C (pc' := 24) rfl (D 11 (23, .aload_n 0, 1) rfl) rfl (j := 0) rfl ?_
        refine cv_get C (pc' := 27) rfl (k0 := 0) (i := 0) (ci := 6) (by decide) rfl rfl (by decide) (o := some 1) rfl iw_X6 wfX6_13 (D 12 (24, .getfield 13, 3) rfl) rfl ?_
        refine cv_iload_n C (pc' := 28) rfl (D 13 (27, .iload_n 1, 1) rfl) rfl (j := 1) rfl ?_
        refine cv_aald C (pc' := 29) rfl (k0 := 1) (j := j) (r := 2 + j) (by decide) rfl rfl rfl (cv_ix_s hj) (by decide) (D 14 (28, .aaload, 1) rfl) ?_
        refine cv_iload_n C (pc' := 30) rfl (D 15 (29, .iload_n 3, 1) rfl) rfl (j := 3) rfl ?_
        refine cv_iload_n C (pc' := 31) rfl (D 16 (30, .iload_n 2, 1) rfl) rfl (j := 2) rfl ?_
        refine cv_iconst C (pc' := 32) rfl (D 17 (31, .iconst 1, 1) rfl) (v := nI 1) (by decide) ?_
        refine cv_callV C (pc' := 35) rfl (k0 := 2 + j) (ci := 3) (As := [.int z, .int y, .int (nI 1)]) (rest := []) (idx := 50) (np := 3) (kX3_faultOf j none z y (nI 1) (cv_u σ 0 5 (nI 0)) hj (by rw [cv_u_0k (by omega)]; exact hS1)) (cv_lt_s hj) (cv_shC_s hj) rfl rfl (by decide +kernel) rfl wmX6_50 wi_yX3_faultOf ws_yX3_faultOf wn_X3 wc_yX3_faultOf (by decide) (by decide) (D 18 (32, .invokevirtual 50, 3) rfl) (Nat.le_of_ble_eq_true rfl) rfl (fun w9 u9 h9 => ?_)
        rw [h9.1, h9.2]
        show cv_At X _ _ (cv_u σ 0 5 (nI 0)) 35 _ [.int (nI (cv_fo none z y (nI 1)))]
        refine cv_istore C (pc' := 37) rfl (D 19 (35, .istore 4, 2) rfl) (by decide) (lv' := [(4, .int (nI (cv_fo none z y (nI 1)))), (0, .ref 0), (1, .int (nI j)), (2, .int y), (3, .int z)]) rfl ?_
        refine cv_iload C (pc' := 39) rfl (D 20 (37, .iload 4, 2) rfl) (j := 0) rfl ?_
        have hfb := cv_fo_le none z y (nI 1)
        refine cv_if_eqN C (pc' := 42) rfl (by omega) (tgt := 52) (D 21 (39, .ifCond .eq 13, 3) rfl) (by decide) (fun b39 => ?_) (fun b39 => ?_)
        · skip
          exact absurd b39 Nat.one_ne_zero
        · skip
          refine cv_aload_n C (pc' := 43) rfl (D 22 (42, .aload_n 0, 1) rfl) rfl (j := 1) rfl ?_
          refine cv_iload C (pc' := 45) rfl (D 23 (43, .iload 4, 2) rfl) (j := 0) rfl ?_
          refine cv_put C (pc' := 48) rfl (k0 := 0) (i := 5) (ci := 6) (by decide) rfl rfl (by decide) rfl iw_X6 tyX6 tyX6_ok nmX6 wfX6_39 rfl rfl rfl (D 24 (45, .putfield 39, 3) rfl) ?_
          refine cv_ldc2 C (pc' := 51) rfl wlX6_182 (D 25 (48, .ldc2_w 182, 3) rfl) ?_
          exact cv_lret C Rt (D 26 (51, .lreturn, 1) rfl) ⟨congrArg (fun z => some (Value.long z)) (by unfold cv_a_cell; rw [if_neg (fun h => by rw [cv_nt, nI_clamp (show j < 2 ^ 31 by omega), hq] at h; omega)]), by unfold cv_f_cell; rw [if_pos ⟨b9, b16⟩, cv_nt, nI_clamp (show j < 2 ^ 31 by omega), hq, cv_uu]; exact cv_RC_f _ hR⟩
      | some q =>
        have hS1 := (hSh j hj).1
        rw [hq] at hS1
        have hq1 := hS1.2.2.1
        have hq2 := hS1.2.2.2
        have hSc := (hSh j hj).2 (by rw [hq]; rfl)
        refine cv_aload_n C (pc' := 24) rfl (D 11 (23, .aload_n 0, 1) rfl) rfl (j := 0) rfl ?_
        refine cv_get C (pc' := 27) rfl (k0 := 0) (i := 0) (ci := 6) (by decide) rfl rfl (by decide) (o := some 1) rfl iw_X6 wfX6_13 (D 12 (24, .getfield 13, 3) rfl) rfl ?_
        refine cv_iload_n C (pc' := 28) rfl (D 13 (27, .iload_n 1, 1) rfl) rfl (j := 1) rfl ?_
        refine cv_aald C (pc' := 29) rfl (k0 := 1) (j := j) (r := 2 + j) (by decide) rfl rfl rfl (cv_ix_s hj) (by decide) (D 14 (28, .aaload, 1) rfl) ?_
        refine cv_iload_n C (pc' := 30) rfl (D 15 (29, .iload_n 3, 1) rfl) rfl (j := 3) rfl ?_
        refine cv_iload_n C (pc' := 31) rfl (D 16 (30, .iload_n 2, 1) rfl) rfl (j := 2) rfl ?_
        refine cv_iconst C (pc' := 32) rfl (D 17 (31, .iconst 1, 1) rfl) (v := nI 1) (by decide) ?_
        refine cv_callV C (pc' := 35) rfl (k0 := 2 + j) (ci := 3) (As := [.int z, .int y, .int (nI 1)]) (rest := []) (idx := 50) (np := 3) (kX3_faultOf j (some q) z y (nI 1) (cv_u σ 0 5 (nI 0)) hj (by rw [cv_u_0k (by omega)]; exact hS1)) (cv_lt_s hj) (cv_shC_s hj) rfl rfl (by decide +kernel) rfl wmX6_50 wi_yX3_faultOf ws_yX3_faultOf wn_X3 wc_yX3_faultOf (by decide) (by decide) (D 18 (32, .invokevirtual 50, 3) rfl) (Nat.le_of_ble_eq_true rfl) rfl (fun w9 u9 h9 => ?_)
        rw [h9.1, h9.2]
        show cv_At X _ _ (cv_u σ 0 5 (nI 0)) 35 _ [.int (nI (cv_fo (some q) z y (nI 1)))]
        refine cv_istore C (pc' := 37) rfl (D 19 (35, .istore 4, 2) rfl) (by decide) (lv' := [(4, .int (nI (cv_fo (some q) z y (nI 1)))), (0, .ref 0), (1, .int (nI j)), (2, .int y), (3, .int z)]) rfl ?_
        refine cv_iload C (pc' := 39) rfl (D 20 (37, .iload 4, 2) rfl) (j := 0) rfl ?_
        have hfb := cv_fo_le (some q) z y (nI 1)
        refine cv_if_eqN C (pc' := 42) rfl (by omega) (tgt := 52) (D 21 (39, .ifCond .eq 13, 3) rfl) (by decide) (fun b39 => ?_) (fun b39 => ?_)
        · skip
          obtain ⟨q0, hq0, -, hyh⟩ := cv_fo_0 b39
          cases hq0
          obtain ⟨i, t1, hyi, ht1, hit⟩ := cv_hs_of hq2 hyh
          have ht2 := (nI_eq (by decide) (by omega)).mp ht1
          subst hyi
          refine cv_aload_n C (pc' := 53) rfl (D 27 (52, .aload_n 0, 1) rfl) rfl (j := 1) rfl ?_
          refine cv_get C (pc' := 56) rfl (k0 := 0) (i := 0) (ci := 6) (by decide) rfl rfl (by decide) (o := some 1) rfl iw_X6 wfX6_13 (D 28 (53, .getfield 13, 3) rfl) rfl ?_
          refine cv_iload_n C (pc' := 57) rfl (D 29 (56, .iload_n 1, 1) rfl) rfl (j := 2) rfl ?_
          refine cv_aald C (pc' := 58) rfl (k0 := 1) (j := j) (r := 2 + j) (by decide) rfl rfl rfl (cv_ix_s hj) (by decide) (D 30 (57, .aaload, 1) rfl) ?_
          refine cv_get C (pc' := 61) rfl (k0 := 2 + j) (i := 0) (ci := 3) (cv_lt_s hj) (cv_shC_s hj) rfl (by decide) (o := some (6 + j)) rfl iw_X3 wfX6_60 (D 31 (58, .getfield 60, 3) rfl) rfl ?_
          refine cv_iload_n C (pc' := 62) rfl (D 32 (61, .iload_n 2, 1) rfl) rfl (j := 3) rfl ?_
          refine cv_iald C (pc' := 63) rfl (k0 := 6 + j) (j := i) (cv_lt_c hj) (cv_shC_c hj) rfl (by omega) (by decide) (D 33 (62, .iaload, 1) rfl) (v := sc j i) ((congrFun (cv_u_c (by omega)) _).trans (hSc i (by omega))) ?_
          refine cv_i2l C (pc' := 64) rfl (D 34 (63, .i2l, 1) rfl) rfl ?_
          exact cv_lret C Rt (D 35 (64, .lreturn, 1) rfl) ⟨congrArg (fun z => some (Value.long z)) (by unfold cv_a_cell; rw [if_pos ⟨b9, b16, by rw [cv_nt, nI_clamp (show j < 2 ^ 31 by omega), hq]; exact b39⟩, cv_nt, nI_clamp (show j < 2 ^ 31 by omega), cv_nt, nI_clamp (show i < 2 ^ 31 by omega)]), by unfold cv_f_cell; rw [if_pos ⟨b9, b16⟩, cv_nt, nI_clamp (show j < 2 ^ 31 by omega), hq, b39]; exact cv_RC_f _ hR⟩
        · skip
          refine cv_aload_n C (pc' := 43) rfl (D 22 (42, .aload_n 0, 1) rfl) rfl (j := 1) rfl ?_
          refine cv_iload C (pc' := 45) rfl (D 23 (43, .iload 4, 2) rfl) (j := 0) rfl ?_
          refine cv_put C (pc' := 48) rfl (k0 := 0) (i := 5) (ci := 6) (by decide) rfl rfl (by decide) rfl iw_X6 tyX6 tyX6_ok nmX6 wfX6_39 rfl rfl rfl (D 24 (45, .putfield 39, 3) rfl) ?_
          refine cv_ldc2 C (pc' := 51) rfl wlX6_182 (D 25 (48, .ldc2_w 182, 3) rfl) ?_
          exact cv_lret C Rt (D 26 (51, .lreturn, 1) rfl) ⟨congrArg (fun z => some (Value.long z)) (by unfold cv_a_cell; rw [if_neg (fun h => by rw [cv_nt, nI_clamp (show j < 2 ^ 31 by omega), hq] at h; omega)]), by unfold cv_f_cell; rw [if_pos ⟨b9, b16⟩, cv_nt, nI_clamp (show j < 2 ^ 31 by omega), hq, cv_uu]; exact cv_RC_f _ hR⟩
    · skip
      refine cv_ldc2 C (pc' := 22) rfl wlX6_182 (D 9 (19, .ldc2_w 182, 3) rfl) ?_
      exact cv_lret C Rt (D 10 (22, .lreturn, 1) rfl) ⟨congrArg (fun z => some (Value.long z)) (by unfold cv_a_cell; rw [if_neg (by simp [b16])]), by unfold cv_f_cell; rw [if_neg (by simp [b16])]; exact cv_RC_f _ hR⟩

