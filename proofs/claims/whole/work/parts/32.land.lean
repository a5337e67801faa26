/-- the codes of a text -/
abbrev cv_gr (sc : Nat → Nat → Int32) (k i : Nat) : Nat → Int32 := fun p => sc k (i + p)
def cv_f_land (sl : Nat → Option (Nat × Nat)) (x y z w : Int32) : Nat := if cv_in x 4 = true ∧ cv_in y 3 = true then cv_fo (sl (cv_nt x)) y z w else 0
def cv_a_land (sl : Nat → Option (Nat × Nat)) (sc : Nat → Nat → Int32) (x y z w : Int32) : Int32 := if cv_in x 4 = true then (if cv_in y 3 = true then (if cv_fo (sl (cv_nt x)) y z w = 0 then (match cv_ff (cv_gr sc (cv_nt x) (cv_nt z)) (cv_nt w) with
  | some p => -100 - nI p
  | none => nI (cv_tl (cv_gr sc (cv_nt x) (cv_nt z)) (cv_nt w) 7 0)) else -10 - nI (cv_fo (sl (cv_nt x)) y z w)) else -2) else -1
abbrev cv_ok_land (sl : Nat → Option (Nat × Nat)) (sc : Nat → Nat → Int32) (x y z w : Int32) : Prop := (cv_in x 4 = true ∧ cv_in y 3 = true) ∧ cv_fo (sl (cv_nt x)) y z w = 0 ∧ (cv_ff (cv_gr sc (cv_nt x) (cv_nt z)) (cv_nt w)).isNone = true
def cv_n_land (sl : Nat → Option (Nat × Nat)) (sc : Nat → Nat → Int32) (L : cv_L) (x y z w : Int32) : cv_L := if cv_ok_land sl sc x y z w then cv_tl (cv_gr sc (cv_nt x) (cv_nt z)) (cv_nt w) else L
def cv_r_land (sl : Nat → Option (Nat × Nat)) (sc : Nat → Nat → Int32) (rc : Nat) (x y z w : Int32) : Nat := if cv_ok_land sl sc x y z w then 0 else rc
theorem cv_RC_26 {tr : Int32} {ft : Nat} {sl : Nat → Option (Nat × Nat)} {sc : Nat → Nat → Int32} {L : cv_L} {rc : Nat} {rd : Nat → Nat} {rn : Nat → Option Nat} {σ τ : cv_St} (h : ∀ k, k < 26 → τ k = σ k) (hB : cv_LB L) (hR : cv_RC tr ft sl sc L rc rd rn σ) : cv_RC tr ft sl sc L rc rd rn τ := by
  obtain ⟨h1, h2, h3, h4, h5, h6⟩ := hR
  have h9 := hB.1
  refine ⟨by rw [h 0 (by decide)]; exact h1, by rw [h 0 (by decide)]; exact h2, fun k hk => by rw [h (2 + k) (by omega), h (6 + k) (by omega)]; exact h3 k hk, ⟨by rw [h 10 (by decide)]; exact h4.1, fun d hd => by rw [h 18 (by decide)]; exact h4.2.1 d hd, fun v hv => by rw [h 19 (by decide)]; exact h4.2.2.1 v hv, fun p hp i hi => by rw [h (12 + p) (by omega)]; exact h4.2.2.2 p hp i hi⟩, by rw [h 10 (by decide)]; exact h5, by rw [h 23 (by decide)]; exact h6.1, fun k hk => by rw [h 24 (by decide), h 25 (by decide)]; exact h6.2 k hk⟩
theorem cv_RC_land {tr : Int32} {ft : Nat} {sl : Nat → Option (Nat × Nat)} {sc : Nat → Nat → Int32} {L L' : cv_L} {rc : Nat} {rd : Nat → Nat} {rn : Nat → Option Nat} {σ u : cv_St} (hu : ∀ k, k < 26 → k ≠ 10 → k ≠ 18 → k ≠ 19 → ¬ (12 ≤ k ∧ k < 18) → u k = σ k) (hL : cv_LC L' u) (h7 : 0 < L' 7 0 ∧ L' 7 0 ≤ 6) (h10 : u 10 5 = nI 1) (hR : cv_RC tr ft sl sc L rc rd rn σ) : cv_RC tr ft sl sc L' 0 rd rn (cv_u u 23 2 (nI 0)) := by
  obtain ⟨h1, h2, h3, h4, h5, h6⟩ := hR
  have e : ∀ k, k ≠ 23 → cv_u u 23 2 (nI 0) k = u k := fun k hk => cv_u_c hk
  refine ⟨by rw [e 0 (by decide), hu 0 (by decide) (by decide) (by decide) (by decide) (by decide)]; exact h1, by rw [e 0 (by decide), hu 0 (by decide) (by decide) (by decide) (by decide) (by decide)]; exact h2, fun k hk => by rw [e (2 + k) (by omega), e (6 + k) (by omega), hu (2 + k) (by omega) (by omega) (by omega) (by omega) (by omega), hu (6 + k) (by omega) (by omega) (by omega) (by omega) (by omega)]; exact h3 k hk, ⟨by rw [e 10 (by decide)]; exact hL.1, fun d hd => by rw [e 18 (by decide)]; exact hL.2.1 d hd, fun v hv => by rw [e 19 (by decide)]; exact hL.2.2.1 v hv, fun p hp i hi => by rw [e (12 + p) (by omega)]; exact hL.2.2.2 p hp i hi⟩, by rw [e 10 (by decide), h10, decide_eq_true h7.1]; rfl, cv_u_s, fun k hk => by omega⟩
set_option maxHeartbeats 4000000 in
set_option maxRecDepth 100000 in
theorem pX6_land (tr : Int32) (ft : Nat) (sl : Nat → Option (Nat × Nat)) (sc : Nat → Nat → Int32) (L : cv_L) (rc : Nat) (rd : Nat → Nat) (rn : Nat → Option Nat) (x y z w : Int32) (σ : cv_St) (hR : cv_RC tr ft sl sc L rc rd rn σ) (hB : cv_LB L) (hDB : cv_DB rc rd rn) : cv_Ct yX6_land cX6_land 8 (some .int) 6 1 3 26 cv_shC [.ref 0, .int x, .int y, .int z, .int w] σ (fun v u => v = some (.int (cv_a_land sl sc x y z w)) ∧ cv_RC tr (cv_f_land sl x y z w) sl sc (cv_n_land sl sc L x y z w) (cv_r_land sl sc rc x y z w) rd rn u) := by
  refine cv_enter (own := RX6) (by decide) rfl (Nat.le_of_ble_eq_true rfl) ?_
  intro X a C Rt hRm
  have D := @cv_dec _ _ dkX6_land
  obtain ⟨hTr, hFt, hSh, hL, hSe, hD⟩ := id hR
  have hn6 := hB.1
  have hrc := hDB.1
  show cv_At X _ _ σ 0 [(0, .ref 0), (1, .int x), (2, .int y), (3, .int z), (4, .int w)] []
  refine cv_aload_n C (pc' := 1) rfl (D 0 (0, .aload_n 0, 1) rfl) rfl (j := 0) rfl ?_
  refine cv_iconst C (pc' := 2) rfl (D 1 (1, .iconst 0, 1) rfl) (v := nI 0) (by decide) ?_
  refine cv_put C (pc' := 5) rfl (k0 := 0) (i := 5) (ci := 6) (by decide) rfl rfl (by decide) rfl iw_X6 tyX6 tyX6_ok nmX6 wfX6_39 rfl rfl rfl (D 2 (2, .putfield 39, 3) rfl) ?_
  refine cv_iload_n C (pc' := 6) rfl (D 3 (5, .iload_n 1, 1) rfl) rfl (j := 1) rfl ?_
  refine cv_callS C (pc' := 9) rfl (As := [.int x]) (rest := []) (idx := 43) (np := 1) (kX6_isSheet x (cv_u σ 0 5 (nI 0))) (by decide +kernel) rfl wmX6_43 wt_yX6_isSheet wn_X6 wc_yX6_isSheet (by decide) (by decide) (D 4 (6, .invokestatic 43, 3) rfl) (Nat.le_of_ble_eq_true rfl) rfl (fun w9 u9 h9 => ?_)
  rw [h9.1, h9.2]
  show cv_At X _ _ (cv_u σ 0 5 (nI 0)) 9 _ [.int (cv_b (cv_in x 4))]
  refine cv_if_neB C (pc' := 12) rfl (tgt := 14) (D 5 (9, .ifCond .ne 5, 3) rfl) (by decide) (fun b9 => ?_) (fun b9 => ?_)
  · skip
    refine cv_iload_n C (pc' := 15) rfl (D 8 (14, .iload_n 2, 1) rfl) rfl (j := 2) rfl ?_
    refine cv_callS C (pc' := 18) rfl (As := [.int y]) (rest := []) (idx := 47) (np := 1) (kX6_isLane y (cv_u σ 0 5 (nI 0))) (by decide +kernel) rfl wmX6_47 wt_yX6_isLane wn_X6 wc_yX6_isLane (by decide) (by decide) (D 9 (15, .invokestatic 47, 3) rfl) (Nat.le_of_ble_eq_true rfl) rfl (fun w9 u9 h9 => ?_)
    rw [h9.1, h9.2]
    show cv_At X _ _ (cv_u σ 0 5 (nI 0)) 18 _ [.int (cv_b (cv_in y 3))]
    refine cv_if_neB C (pc' := 21) rfl (tgt := 24) (D 10 (18, .ifCond .ne 6, 3) rfl) (by decide) (fun b18 => ?_) (fun b18 => ?_)
    · skip
      obtain ⟨j, hj, rfl⟩ := cv_in_of b9 (by omega)
      have hj9 : cv_nt (nI j) = j := nI_clamp (by omega)
      have hfb := cv_fo_le (sl j) y z w
      refine cv_aload_n C (pc' := 25) rfl (D 13 (24, .aload_n 0, 1) rfl) rfl (j := 0) rfl ?_
      refine cv_get C (pc' := 28) rfl (k0 := 0) (i := 0) (ci := 6) (by decide) rfl rfl (by decide) (o := some 1) rfl iw_X6 wfX6_13 (D 14 (25, .getfield 13, 3) rfl) rfl ?_
      refine cv_iload_n C (pc' := 29) rfl (D 15 (28, .iload_n 1, 1) rfl) rfl (j := 1) rfl ?_
      refine cv_aald C (pc' := 30) rfl (k0 := 1) (j := j) (r := 2 + j) (by decide) rfl rfl rfl (cv_ix_s hj) (by decide) (D 16 (29, .aaload, 1) rfl) ?_
      refine cv_iload_n C (pc' := 31) rfl (D 17 (30, .iload_n 2, 1) rfl) rfl (j := 2) rfl ?_
      refine cv_iload_n C (pc' := 32) rfl (D 18 (31, .iload_n 3, 1) rfl) rfl (j := 3) rfl ?_
      refine cv_iload C (pc' := 34) rfl (D 19 (32, .iload 4, 2) rfl) (j := 4) rfl ?_
      refine cv_callV C (pc' := 37) rfl (k0 := 2 + j) (ci := 3) (As := [.int y, .int z, .int w]) (rest := []) (idx := 50) (np := 3) (kX3_faultOf j (sl j) y z w (cv_u σ 0 5 (nI 0)) hj (by rw [cv_u_0k (by omega)]; exact (hSh j hj).1)) (cv_lt_s hj) (cv_shC_s hj) rfl rfl (by decide +kernel) rfl wmX6_50 wi_yX3_faultOf ws_yX3_faultOf wn_X3 wc_yX3_faultOf (by decide) (by decide) (D 20 (34, .invokevirtual 50, 3) rfl) (Nat.le_of_ble_eq_true rfl) rfl (fun w9 u9 h9 => ?_)
      rw [h9.1, h9.2]
      show cv_At X _ _ (cv_u σ 0 5 (nI 0)) 37 _ [.int (nI (cv_fo (sl j) y z w))]
      refine cv_istore C (pc' := 39) rfl (D 21 (37, .istore 5, 2) rfl) (by decide) (lv' := [(5, .int (nI (cv_fo (sl j) y z w))), (0, .ref 0), (1, .int (nI j)), (2, .int y), (3, .int z), (4, .int w)]) rfl ?_
      refine cv_iload C (pc' := 41) rfl (D 22 (39, .iload 5, 2) rfl) (j := 0) rfl ?_
      refine cv_if_eqN C (pc' := 44) rfl (by omega) (tgt := 51) (D 23 (41, .ifCond .eq 10, 3) rfl) (by decide) (fun b41 => ?_) (fun b41 => ?_)
      · skip
        obtain ⟨q0, hq0, -, hyh⟩ := cv_fo_0 b41
        have hS1 := (hSh j hj).1
        rw [hq0] at hS1
        have h60 := hS1.2.2.2
        obtain ⟨i, n, ei, en, hin⟩ := cv_hs_of h60 hyh
        subst ei
        subst en
        have hi9 : cv_nt (nI i) = i := nI_clamp (by omega)
        have hn9 : cv_nt (nI n) = n := nI_clamp (by omega)
        have hSc := (hSh j hj).2 (by rw [hq0]; rfl)
        refine cv_newText (j := j) (i0 := 1) (i1 := 2) (i3 := 4) (i4 := 5) C (by decide) hRm hj rfl rfl rfl rfl (fun q hq k hk => by simp only [List.mem_cons, List.not_mem_nil, or_false] at hq; rcases hq with rfl | rfl | rfl | rfl | rfl | rfl <;> first | (cases hk; decide) | cases hk) ?_
        intro a2 ha2 C
        have hXT : cv_TX (6 + j) i n (cv_gr sc j i) (cv_uc (cv_u σ 0 5 (nI 0)) 26 (fun q => if q = 1 then nI i else nI n)) := ⟨by rw [cv_uc_s]; rfl, by rw [cv_uc_s]; rfl, by omega, fun q hq => by rw [cv_uc_n (by omega), cv_u_0k (by omega)]; exact hSc _ (by omega)⟩
        refine cv_astore C (pc' := 72) rfl (D 38 (70, .astore 6, 2) rfl) (by decide) (lv' := [(6, .ref 26), (5, .int (nI (cv_fo (sl j) y (nI i) (nI n)))), (0, .ref 0), (1, .int (nI j)), (2, .int y), (3, .int (nI i)), (4, .int (nI n))]) rfl ?_
        refine cv_aload C (pc' := 74) rfl (D 39 (72, .aload 6, 2) rfl) (j := 0) rfl ?_
        refine cv_callV C (pc' := 77) rfl (k0 := 26) (ci := 4) (As := []) (rest := []) (idx := 67) (np := 0) (kX4_firstFault (6 + j) i n (cv_gr sc j i) (cv_uc (cv_u σ 0 5 (nI 0)) 26 (fun q => if q = 1 then nI i else nI n)) (by omega) hXT) (by decide) rfl rfl rfl (by decide +kernel) rfl wmX6_67 wi_yX4_firstFault ws_yX4_firstFault wn_X4 wc_yX4_firstFault (by decide) (by decide) (D 40 (74, .invokevirtual 67, 3) rfl) (Nat.le_of_ble_eq_true rfl) rfl (fun w9 u9 h9 => ?_)
        rw [h9.1, h9.2]
        show cv_At X _ _ (cv_uc (cv_u σ 0 5 (nI 0)) 26 (fun q => if q = 1 then nI i else nI n)) 77 _ [.int (cv_o (cv_ff (cv_gr sc j i) n))]
        refine cv_istore C (pc' := 79) rfl (D 41 (77, .istore 7, 2) rfl) (by decide) (lv' := [(7, .int (cv_o (cv_ff (cv_gr sc j i) n))), (6, .ref 26), (5, .int (nI (cv_fo (sl j) y (nI i) (nI n)))), (0, .ref 0), (1, .int (nI j)), (2, .int y), (3, .int (nI i)), (4, .int (nI n))]) rfl ?_
        refine cv_iload C (pc' := 81) rfl (D 42 (79, .iload 7, 2) rfl) (j := 0) rfl ?_
        refine cv_bipush C (pc' := 83) rfl (D 43 (81, .bipush (-9), 2) rfl) (v := -9) (by decide) ?_
        refine cv_icmp_eqO C (pc' := 86) rfl (fun z h => Nat.lt_of_le_of_lt (cv_ff_lt h) (by omega)) (tgt := 92) (D 44 (83, .if_icmp .eq 9, 3) rfl) (by decide) (fun b83 => ?_) (fun z83 b83 => ?_)
        · skip
          refine cv_aload_n C (pc' := 93) rfl (D 49 (92, .aload_n 0, 1) rfl) rfl (j := 3) rfl ?_
          refine cv_get C (pc' := 96) rfl (k0 := 0) (i := 1) (ci := 6) (by decide) rfl rfl (by decide) (o := some 10) rfl iw_X6 wfX6_21 (D 50 (93, .getfield 21, 3) rfl) rfl ?_
          refine cv_aload C (pc' := 98) rfl (D 51 (96, .aload 6, 2) rfl) (j := 1) rfl ?_
          refine cv_callV C (pc' := 101) rfl (k0 := 10) (ci := 0) (As := [.ref 26]) (rest := []) (idx := 71) (np := 1) (kX0_settle (6 + j) i n (cv_gr sc j i) (cv_uc (cv_u σ 0 5 (nI 0)) 26 (fun q => if q = 1 then nI i else nI n)) (by omega) hXT b83) (by decide) rfl rfl rfl (by decide +kernel) rfl wmX6_71 wi_yX0_settle ws_yX0_settle wn_X0 wc_yX0_settle (by decide) (by decide) (D 52 (98, .invokevirtual 71, 3) rfl) (Nat.le_of_ble_eq_true rfl) rfl (fun w98 u98 h98 => ?_)
          obtain ⟨e1, e2, e3, e4⟩ := h98
          rw [e1]
          have hTB := cv_tl_B b83
          show cv_At X _ _ u98 101 _ []
          refine cv_aload_n C (pc' := 102) rfl (D 53 (101, .aload_n 0, 1) rfl) rfl (j := 3) rfl ?_
          refine cv_get C (pc' := 105) rfl (k0 := 0) (i := 3) (ci := 6) (by decide) rfl rfl (by decide) (o := some 23) rfl iw_X6 wfX6_35 (D 54 (102, .getfield 35, 3) rfl) rfl ?_
          refine cv_iconst C (pc' := 106) rfl (D 55 (105, .iconst 0, 1) rfl) (v := nI 0) (by decide) ?_
          refine cv_put C (pc' := 109) rfl (k0 := 23) (i := 2) (ci := 2) (by decide) rfl rfl (by decide) rfl iw_X2 tyX2 tyX2_ok nmX2 wfX6_75 rfl rfl rfl (D 56 (106, .putfield 75, 3) rfl) ?_
          refine cv_aload_n C (pc' := 110) rfl (D 57 (109, .aload_n 0, 1) rfl) rfl (j := 3) rfl ?_
          refine cv_get C (pc' := 113) rfl (k0 := 0) (i := 1) (ci := 6) (by decide) rfl rfl (by decide) (o := some 10) rfl iw_X6 wfX6_21 (D 58 (110, .getfield 21, 3) rfl) rfl ?_
          refine cv_get C (pc' := 116) rfl (k0 := 10) (i := 6) (ci := 0) (by decide) rfl rfl (by decide) (o := none) rfl iw_X0 wfX6_78 (D 59 (113, .getfield 78, 3) rfl) (v := .int (nI (cv_tl (cv_gr sc j i) n 7 0))) (congrArg Value.int ((congrFun (cv_u_c (by omega)) _).trans e3.1)) ?_
          exact cv_iretT C Rt (by decide) ha2 rfl (D 60 (116, .ireturn, 1) rfl) ⟨congrArg (fun z => some (Value.int z)) (by unfold cv_a_land; rw [if_pos b9, if_pos b18]; simp only [cv_nt, nI_clamp (show j < 2 ^ 31 by omega), nI_clamp (show i < 2 ^ 31 by omega), nI_clamp (show n < 2 ^ 31 by omega)]; rw [if_pos b41, b83]), by unfold cv_f_land cv_n_land cv_r_land; simp only [cv_nt, nI_clamp (show j < 2 ^ 31 by omega), nI_clamp (show i < 2 ^ 31 by omega), nI_clamp (show n < 2 ^ 31 by omega)]; rw [if_pos ⟨b9, b18⟩, if_pos ⟨⟨b9, b18⟩, by rw [hj9]; exact b41, by rw [hj9, hi9, hn9, b83]; rfl⟩, if_pos ⟨⟨b9, b18⟩, by rw [hj9]; exact b41, by rw [hj9, hi9, hn9, b83]; rfl⟩, b41]; exact cv_RC_land (fun q h0 h1 h2 h3 h4 => e2 q h1 h2 h3 h4) e3 ⟨hTB.2, hTB.1.1⟩ e4 (cv_RC_26 (fun q hq => cv_uc_n (by omega)) hB (cv_RC_f 0 hR))⟩
        · skip
          have ez83 : cv_o (cv_ff (cv_gr sc j i) n) = nI z83 := by rw [b83]; rfl
          rw [ez83]
          refine cv_bipush C (pc' := 88) rfl (D 45 (86, .bipush (-100), 2) rfl) (v := -100) (by decide) ?_
          refine cv_iload C (pc' := 90) rfl (D 46 (88, .iload 7, 2) rfl) (j := 0) rfl ?_
          refine cv_isub C (pc' := 91) rfl (D 47 (90, .isub, 1) rfl) ?_
          exact cv_iretT C Rt (by decide) ha2 rfl (D 48 (91, .ireturn, 1) rfl) ⟨congrArg (fun z => some (Value.int z)) (by unfold cv_a_land; rw [if_pos b9, if_pos b18]; simp only [cv_nt, nI_clamp (show j < 2 ^ 31 by omega), nI_clamp (show i < 2 ^ 31 by omega), nI_clamp (show n < 2 ^ 31 by omega)]; rw [if_pos b41, b83]), by unfold cv_f_land cv_n_land cv_r_land; simp only [cv_nt, nI_clamp (show j < 2 ^ 31 by omega), nI_clamp (show i < 2 ^ 31 by omega), nI_clamp (show n < 2 ^ 31 by omega)]; rw [if_pos ⟨b9, b18⟩, if_neg (fun h => by have := h.2.2; rw [hj9, hi9, hn9, b83] at this; cases this), if_neg (fun h => by have := h.2.2; rw [hj9, hi9, hn9, b83] at this; cases this), b41]; exact cv_RC_26 (fun q hq => cv_uc_n (by omega)) hB (cv_RC_f 0 hR)⟩
      · skip
        refine cv_aload_n C (pc' := 45) rfl (D 24 (44, .aload_n 0, 1) rfl) rfl (j := 1) rfl ?_
        refine cv_iload C (pc' := 47) rfl (D 25 (45, .iload 5, 2) rfl) (j := 0) rfl ?_
        refine cv_callV C (pc' := 50) rfl (k0 := 0) (ci := 6) (As := [.int (nI (cv_fo (sl j) y z w))]) (rest := []) (idx := 54) (np := 1) (kX6_failed (cv_fo (sl j) y z w) (cv_u σ 0 5 (nI 0))) (by decide) rfl rfl rfl (by decide +kernel) rfl wmX6_54 wi_yX6_failed ws_yX6_failed wn_X6 wc_yX6_failed (by decide) (by decide) (D 26 (47, .invokevirtual 54, 3) rfl) (Nat.le_of_ble_eq_true rfl) rfl (fun w47 u47 h47 => ?_)
        rw [h47.1, h47.2, cv_uu]
        show cv_At X _ _ (cv_u σ 0 5 (nI (cv_fo (sl j) y z w))) 50 _ [.int (-10 - nI (cv_fo (sl j) y z w))]
        exact cv_iret C Rt rfl (D 27 (50, .ireturn, 1) rfl) ⟨congrArg (fun z => some (Value.int z)) (by unfold cv_a_land; rw [if_pos b9, if_pos b18]; simp only [cv_nt, nI_clamp (show j < 2 ^ 31 by omega)]; rw [if_neg (by omega)]), by unfold cv_f_land cv_n_land cv_r_land; simp only [cv_nt, nI_clamp (show j < 2 ^ 31 by omega)]; rw [if_pos ⟨b9, b18⟩, if_neg (fun h => by have := h.2.1; rw [hj9] at this; omega), if_neg (fun h => by have := h.2.1; rw [hj9] at this; omega)]; exact cv_RC_f _ hR⟩
    · skip
      refine cv_bipush C (pc' := 23) rfl (D 11 (21, .bipush (-2), 2) rfl) (v := -2) (by decide) ?_
      exact cv_iret C Rt rfl (D 12 (23, .ireturn, 1) rfl) ⟨congrArg (fun z => some (Value.int z)) (by unfold cv_a_land; rw [if_pos b9, if_neg (by simp [b18])]), by unfold cv_f_land cv_n_land cv_r_land; rw [if_neg (by simp [b18]), if_neg (fun h => by rw [h.1.2] at b18; cases b18), if_neg (fun h => by rw [h.1.2] at b18; cases b18)]; exact cv_RC_f _ hR⟩
  · skip
    refine cv_iconst C (pc' := 13) rfl (D 6 (12, .iconst (-1), 1) rfl) (v := -1) (by decide) ?_
    exact cv_iret C Rt rfl (D 7 (13, .ireturn, 1) rfl) ⟨congrArg (fun z => some (Value.int z)) (by unfold cv_a_land; rw [if_neg (by simp [b9])]), by unfold cv_f_land cv_n_land cv_r_land; rw [if_neg (by simp [b9]), if_neg (fun h => by rw [h.1.1] at b9; cases b9), if_neg (fun h => by rw [h.1.1] at b9; cases b9)]; exact cv_RC_f _ hR⟩

