/-- but for the wheel's scratch and the pass that is missing, as it was -/
def cv_fx (μ u : cv_St) : Prop := (∀ k, k ≠ 0 → k ≠ 14 → u k = μ k) ∧ ∀ i, i ≠ 20 → i ≠ 21 → i ≠ 13 → u 0 i = μ 0 i
theorem cv_fx_w {μ u w : cv_St} (h : cv_fx μ u) (h2 : cv_fw u w) : cv_fx μ w := ⟨fun k a b => (h2.1 k a b).trans (h.1 k a b), fun i a b c => (h2.2 i a b).trans (h.2 i a b c)⟩
theorem cv_fx_u {μ u : cv_St} (h : cv_fx μ u) (y : Int32) : cv_fx μ (cv_u u 0 13 y) := ⟨fun k a b => by rw [cv_u_c a]; exact h.1 k a b, fun i a b c => by rw [cv_u_i c]; exact h.2 i a b c⟩
theorem cv_fw_x {μ u : cv_St} (h : cv_fw μ u) : cv_fx μ u := ⟨h.1, fun i a b _ => h.2 i a b⟩
theorem cv_fx_fw {μ u : cv_St} (h : cv_fx μ u) (hM : μ 0 13 = -9) : cv_fw μ (cv_u u 0 13 (-9)) := by
  refine ⟨(cv_fx_u h _).1, fun i a b => ?_⟩
  by_cases e : i = 13
  · subst e; rw [cv_u_s]; exact hM.symm
  · exact (cv_fx_u h _).2 i a b e
theorem cv_LM_x {L : cv_L} {μ u : cv_St} (h : cv_fx μ u) (hL : cv_LM L μ) : cv_LM L u :=
  ⟨by rw [h.2 5 (by decide) (by decide) (by decide)]; exact hL.1, fun d hd => by rw [h.1 4 (by decide) (by decide)]; exact hL.2.1 d hd, fun v hv => by rw [h.1 5 (by decide) (by decide)]; exact hL.2.2.1 v hv, fun p hp i hi => by rw [h.1 (6 + i) (by omega) (by omega)]; exact hL.2.2.2 p hp i hi⟩
set_option maxHeartbeats 4000000 in
set_option maxRecDepth 100000 in
theorem pX7_hangs (tr : Int32) (ft : Nat) (sl : Nat → Option (Nat × Nat)) (sc : Nat → Nat → Int32) (L : cv_L) (rc : Nat) (rd : Nat → Nat) (rn : Nat → Option Nat) (x y : Int32) (μ : cv_St) (hR : cv_RM tr ft sl sc L rc rd rn μ) (hB : cv_LB L) (hDB : cv_DB rc rd rn) : cv_Ct yX7_hangs cX7_hangs 5 (some .int) 6 0 0 17 cv_shM [.ref 0, .int x, .int y] μ (fun v u => v = some (.int (cv_a_hangs L x y)) ∧ cv_RM tr ft sl sc L rc rd rn u) := by
  refine cv_enter (own := RX7) (by decide) rfl (Nat.le_of_ble_eq_true rfl) ?_
  intro X a C Rt hRm
  have D := @cv_dec _ _ dkX7_hangs
  obtain ⟨hTr, hFt, hSh, hL, hM, hD⟩ := id hR
  have hn6 := hB.1
  have hrc := hDB.1
  show cv_At X _ _ μ 0 [(0, .ref 0), (1, .int x), (2, .int y)] []
  refine cv_iload_n C (pc' := 1) rfl (D 0 (0, .iload_n 1, 1) rfl) rfl (j := 1) rfl ?_
  refine cv_callS C (pc' := 4) rfl (As := [.int x]) (rest := []) (idx := 124) (np := 1) (kX7_isDay x μ) (by decide +kernel) rfl wmX7_124 wt_yX7_isDay wn_X7 wc_yX7_isDay (by decide) (by decide) (D 1 (1, .invokestatic 124, 3) rfl) (Nat.le_of_ble_eq_true rfl) rfl (fun w9 u9 h9 => ?_)
  rw [h9.1, h9.2]
  show cv_At X _ _ μ 4 _ [.int (cv_b (cv_in x 8))]
  refine cv_if_eqB C (pc' := 7) rfl (tgt := 14) (D 2 (4, .ifCond .eq 10, 3) rfl) (by decide) (fun b4 => ?_) (fun b4 => ?_)
  · skip
    refine cv_bipush C (pc' := 16) rfl (D 6 (14, .bipush (-2), 2) rfl) (v := -2) (by decide) ?_
    exact cv_iret C Rt rfl (D 7 (16, .ireturn, 1) rfl) ⟨congrArg (fun z => some (Value.int z)) (by unfold cv_a_hangs cv_day2; rw [if_neg (by simp [b4])]), hR⟩
  · skip
    refine cv_iload_n C (pc' := 8) rfl (D 3 (7, .iload_n 2, 1) rfl) rfl (j := 2) rfl ?_
    refine cv_callS C (pc' := 11) rfl (As := [.int y]) (rest := []) (idx := 124) (np := 1) (kX7_isDay y μ) (by decide +kernel) rfl wmX7_124 wt_yX7_isDay wn_X7 wc_yX7_isDay (by decide) (by decide) (D 4 (8, .invokestatic 124, 3) rfl) (Nat.le_of_ble_eq_true rfl) rfl (fun w9 u9 h9 => ?_)
    rw [h9.1, h9.2]
    show cv_At X _ _ μ 11 _ [.int (cv_b (cv_in y 8))]
    refine cv_if_neB C (pc' := 14) rfl (tgt := 17) (D 5 (11, .ifCond .ne 6, 3) rfl) (by decide) (fun b11 => ?_) (fun b11 => ?_)
    · skip
      obtain ⟨j, hj, rfl⟩ := cv_in_of b4 (by omega)
      obtain ⟨w, hw, rfl⟩ := cv_in_of b11 (by omega)
      refine cv_aload_n C (pc' := 18) rfl (D 8 (17, .aload_n 0, 1) rfl) rfl (j := 0) rfl ?_
      refine cv_get C (pc' := 21) rfl (k0 := 0) (i := 5) (ci := 7) (by decide) rfl rfl (by decide) (o := none) rfl iw_X7 wfX7_71 (D 9 (18, .getfield 71, 3) rfl) (v := .int (nI (L 7 0))) (congrArg Value.int hL.1) ?_
      refine cv_if_neN C (pc' := 24) rfl (by omega) (tgt := 27) (D 10 (21, .ifCond .ne 6, 3) rfl) (by decide) (fun b21 => ?_) (fun b21 => ?_)
      · skip
        refine cv_aload_n C (pc' := 28) rfl (D 13 (27, .aload_n 0, 1) rfl) rfl (j := 0) rfl ?_
        refine cv_iload_n C (pc' := 29) rfl (D 14 (28, .iload_n 1, 1) rfl) rfl (j := 1) rfl ?_
        refine cv_iload_n C (pc' := 30) rfl (D 15 (29, .iload_n 2, 1) rfl) rfl (j := 2) rfl ?_
        refine cv_callV C (pc' := 33) rfl (k0 := 0) (ci := 7) (As := [.int (nI j), .int (nI w)]) (rest := []) (idx := 182) (np := 2) (kX7_canBy L (-9) j w μ hL hB hM (by omega) (by omega)) (by decide) rfl rfl rfl (by decide +kernel) rfl wmX7_182 wi_yX7_canBy ws_yX7_canBy wn_X7 wc_yX7_canBy (by decide) (by decide) (D 16 (30, .invokevirtual 182, 3) rfl) (Nat.le_of_ble_eq_true rfl) rfl (fun w30 u30 h30 => ?_)
        obtain ⟨e30, f30⟩ := h30
        rw [e30]
        have hXu30 : cv_fx μ u30 := cv_fw_x f30
        have hLu30 := cv_LM_x hXu30 hL
        show cv_At X _ _ u30 33 _ [.int (cv_b (cv_can L (-9) j w (L 6 1) (L 6 2)))]
        refine cv_if_neB C (pc' := 36) rfl (tgt := 38) (D 17 (33, .ifCond .ne 5, 3) rfl) (by decide) (fun b33 => ?_) (fun b33 => ?_)
        · skip
          refine cv_iconst C (pc' := 39) rfl (D 20 (38, .iconst 0, 1) rfl) (v := nI 0) (by decide) ?_
          refine cv_istore_n C (pc' := 40) rfl (D 21 (39, .istore_n 3, 1) rfl) rfl (by decide) (lv' := [(3, .int (nI 0)), (0, .ref 0), (1, .int (nI j)), (2, .int (nI w))]) rfl ?_
          refine cv_iconst C (pc' := 41) rfl (D 22 (40, .iconst 0, 1) rfl) (v := nI 0) (by decide) ?_
          refine cv_istore C (pc' := 43) rfl (D 23 (41, .istore 4, 2) rfl) (by decide) (lv' := [(4, .int (nI 0)), (3, .int (nI 0)), (0, .ref 0), (1, .int (nI j)), (2, .int (nI w))]) rfl ?_
          refine cv_pick [0, 1, 2, 3, 4] (lv' := [(4, .int (nI 0)), (3, .int (nI (cv_sb (fun p => !cv_can L (nI p) j w (L 6 1) (L 6 2)) 0))), (0, .ref 0), (1, .int (nI j)), (2, .int (nI w))]) rfl ?_
          have LP43 : ∀ (r : Nat) (p : Nat) (τ : cv_St), (p + r = L 7 0) → (cv_fx μ τ) → cv_At X (17, cv_shM, 0, 0, a) 5 τ 43 [(4, .int (nI p)), (3, .int (nI (cv_sb (fun p => !cv_can L (nI p) j w (L 6 1) (L 6 2)) p))), (0, .ref 0), (1, .int (nI j)), (2, .int (nI w))] [] := by
            intro r
            induction r with
            | zero =>
              intro p τ hr hXτ
              have hLτ := cv_LM_x hXτ hL
              refine cv_iload C (pc' := 45) rfl (D 24 (43, .iload 4, 2) rfl) (j := 0) rfl ?_
              refine cv_aload_n C (pc' := 46) rfl (D 25 (45, .aload_n 0, 1) rfl) rfl (j := 2) rfl ?_
              refine cv_get C (pc' := 49) rfl (k0 := 0) (i := 5) (ci := 7) (by decide) rfl rfl (by decide) (o := none) rfl iw_X7 wfX7_71 (D 26 (46, .getfield 71, 3) rfl) (v := .int (nI (L 7 0))) (congrArg Value.int hLτ.1) ?_
              refine cv_icmp_geN C (pc' := 52) rfl (by omega) (by omega) (tgt := 84) (D 27 (49, .if_icmp .ge 35, 3) rfl) (by decide) (fun b49 => ?_) (fun b49 => ?_)
              · skip
                refine cv_aload_n C (pc' := 85) rfl (D 46 (84, .aload_n 0, 1) rfl) rfl (j := 2) rfl ?_
                refine cv_bipush C (pc' := 87) rfl (D 47 (85, .bipush (-9), 2) rfl) (v := -9) (by decide) ?_
                refine cv_put C (pc' := 90) rfl (k0 := 0) (i := 13) (ci := 7) (by decide) rfl rfl (by decide) rfl iw_X7 tyX7 tyX7_ok nmX7 wfX7_40 rfl rfl rfl (D 48 (87, .putfield 40, 3) rfl) ?_
                refine cv_iload_n C (pc' := 91) rfl (D 49 (90, .iload_n 3, 1) rfl) rfl (j := 1) rfl ?_
                exact cv_iret C Rt rfl (D 50 (91, .ireturn, 1) rfl) ⟨congrArg (fun z => some (Value.int z)) (by unfold cv_a_hangs cv_day2; rw [if_pos ⟨b4, b11⟩, if_pos (by omega)]; simp only [cv_nt, nI_clamp (show j < 2 ^ 31 by omega), nI_clamp (show w < 2 ^ 31 by omega)]; rw [cv_can_9 hB] at b33; rw [if_pos b33, show p = L 7 0 by omega]), cv_RM_k (cv_fw_m (cv_fx_fw hXτ hM)) hR⟩
              · skip
                omega
            | succ r ih43 =>
              intro p τ hr hXτ
              have hLτ := cv_LM_x hXτ hL
              have hp6 : p < 6 := by omega
              refine cv_iload C (pc' := 45) rfl (D 24 (43, .iload 4, 2) rfl) (j := 0) rfl ?_
              refine cv_aload_n C (pc' := 46) rfl (D 25 (45, .aload_n 0, 1) rfl) rfl (j := 2) rfl ?_
              refine cv_get C (pc' := 49) rfl (k0 := 0) (i := 5) (ci := 7) (by decide) rfl rfl (by decide) (o := none) rfl iw_X7 wfX7_71 (D 26 (46, .getfield 71, 3) rfl) (v := .int (nI (L 7 0))) (congrArg Value.int hLτ.1) ?_
              refine cv_icmp_geN C (pc' := 52) rfl (by omega) (by omega) (tgt := 84) (D 27 (49, .if_icmp .ge 35, 3) rfl) (by decide) (fun b49 => ?_) (fun b49 => ?_)
              · skip
                omega
              · skip
                refine cv_aload_n C (pc' := 53) rfl (D 28 (52, .aload_n 0, 1) rfl) rfl (j := 2) rfl ?_
                refine cv_iload C (pc' := 55) rfl (D 29 (53, .iload 4, 2) rfl) (j := 0) rfl ?_
                refine cv_put C (pc' := 58) rfl (k0 := 0) (i := 13) (ci := 7) (by decide) rfl rfl (by decide) rfl iw_X7 tyX7 tyX7_ok nmX7 wfX7_40 rfl rfl rfl (D 30 (55, .putfield 40, 3) rfl) ?_
                refine cv_iload_n C (pc' := 59) rfl (D 31 (58, .iload_n 3, 1) rfl) rfl (j := 1) rfl ?_
                refine cv_aload_n C (pc' := 60) rfl (D 32 (59, .aload_n 0, 1) rfl) rfl (j := 2) rfl ?_
                refine cv_iload_n C (pc' := 61) rfl (D 33 (60, .iload_n 1, 1) rfl) rfl (j := 3) rfl ?_
                refine cv_iload_n C (pc' := 62) rfl (D 34 (61, .iload_n 2, 1) rfl) rfl (j := 4) rfl ?_
                refine cv_callV C (pc' := 65) rfl (k0 := 0) (ci := 7) (As := [.int (nI j), .int (nI w)]) (rest := [.int (nI (cv_sb (fun p => !cv_can L (nI p) j w (L 6 1) (L 6 2)) p))]) (idx := 182) (np := 2) (kX7_canBy L (nI p) j w (cv_u τ 0 13 (nI p)) (cv_LM_x (cv_fx_u hXτ _) hL) hB cv_u_s (by omega) (by omega)) (by decide) rfl rfl rfl (by decide +kernel) rfl wmX7_182 wi_yX7_canBy ws_yX7_canBy wn_X7 wc_yX7_canBy (by decide) (by decide) (D 35 (62, .invokevirtual 182, 3) rfl) (Nat.le_of_ble_eq_true rfl) rfl (fun w62 u62 h62 => ?_)
                obtain ⟨e62, f62⟩ := h62
                rw [e62]
                have hXu62 : cv_fx μ u62 := cv_fx_w (cv_fx_u hXτ _) f62
                have hLu62 := cv_LM_x hXu62 hL
                show cv_At X _ _ u62 65 _ [.int (cv_b (cv_can L (nI p) j w (L 6 1) (L 6 2))), .int (nI (cv_sb (fun p => !cv_can L (nI p) j w (L 6 1) (L 6 2)) p))]
                refine cv_if_eqB C (pc' := 68) rfl (tgt := 72) (D 36 (65, .ifCond .eq 7, 3) rfl) (by decide) (fun b65 => ?_) (fun b65 => ?_)
                · skip
                  refine cv_iconst C (pc' := 73) rfl (D 39 (72, .iconst 1, 1) rfl) (v := nI 1) (by decide) ?_
                  refine cv_iload C (pc' := 75) rfl (D 40 (73, .iload 4, 2) rfl) (j := 0) rfl ?_
                  refine cv_ishl1 C (pc' := 76) rfl (by omega) (D 41 (75, .ishl, 1) rfl) ?_
                  refine cv_iorN C (pc' := 77) rfl (D 42 (76, .ior, 1) rfl) ?_
                  refine cv_istore_n C (pc' := 78) rfl (D 43 (77, .istore_n 3, 1) rfl) rfl (by decide) (lv' := [(3, .int (nI ((cv_sb (fun p => !cv_can L (nI p) j w (L 6 1) (L 6 2)) p) ||| (2 ^ p)))), (4, .int (nI p)), (0, .ref 0), (1, .int (nI j)), (2, .int (nI w))]) rfl ?_
                  refine cv_iincN C (pc' := 81) rfl (D 44 (78, .iinc 4 1, 3) rfl) (j := 1) rfl (by decide) (lv' := [(4, .int (nI (p + 1))), (3, .int (nI ((cv_sb (fun p => !cv_can L (nI p) j w (L 6 1) (L 6 2)) p) ||| (2 ^ p)))), (0, .ref 0), (1, .int (nI j)), (2, .int (nI w))]) rfl ?_
                  refine cv_goto C (tgt := 43) (D 45 (81, .goto (-38), 3) rfl) (by decide) ?_
                  have hw9 : (cv_sb (fun p => !cv_can L (nI p) j w (L 6 1) (L 6 2)) p) ||| (2 ^ p) = cv_sb (fun p => !cv_can L (nI p) j w (L 6 1) (L 6 2)) (p + 1) := by simp [cv_sb, b65]
                  rw [hw9]
                  exact ih43 (p + 1) u62 (by omega) hXu62
                · skip
                  refine cv_iconst C (pc' := 69) rfl (D 37 (68, .iconst 0, 1) rfl) (v := nI 0) (by decide) ?_
                  refine cv_goto C (tgt := 76) (D 38 (69, .goto 7, 3) rfl) (by decide) ?_
                  refine cv_iorN C (pc' := 77) rfl (D 42 (76, .ior, 1) rfl) ?_
                  refine cv_istore_n C (pc' := 78) rfl (D 43 (77, .istore_n 3, 1) rfl) rfl (by decide) (lv' := [(3, .int (nI ((cv_sb (fun p => !cv_can L (nI p) j w (L 6 1) (L 6 2)) p) ||| 0))), (4, .int (nI p)), (0, .ref 0), (1, .int (nI j)), (2, .int (nI w))]) rfl ?_
                  refine cv_iincN C (pc' := 81) rfl (D 44 (78, .iinc 4 1, 3) rfl) (j := 1) rfl (by decide) (lv' := [(4, .int (nI (p + 1))), (3, .int (nI ((cv_sb (fun p => !cv_can L (nI p) j w (L 6 1) (L 6 2)) p) ||| 0))), (0, .ref 0), (1, .int (nI j)), (2, .int (nI w))]) rfl ?_
                  refine cv_goto C (tgt := 43) (D 45 (81, .goto (-38), 3) rfl) (by decide) ?_
                  have hw9 : (cv_sb (fun p => !cv_can L (nI p) j w (L 6 1) (L 6 2)) p) ||| 0 = cv_sb (fun p => !cv_can L (nI p) j w (L 6 1) (L 6 2)) (p + 1) := by simp [cv_sb, b65]
                  rw [hw9]
                  exact ih43 (p + 1) u62 (by omega) hXu62
          exact LP43 (L 7 0) 0 u30 (by omega) hXu30
        · skip
          refine cv_iconst C (pc' := 37) rfl (D 18 (36, .iconst 0, 1) rfl) (v := nI 0) (by decide) ?_
          exact cv_iret C Rt rfl (D 19 (37, .ireturn, 1) rfl) ⟨congrArg (fun z => some (Value.int z)) (by unfold cv_a_hangs cv_day2; rw [if_pos ⟨b4, b11⟩, if_pos (by omega)]; simp only [cv_nt, nI_clamp (show j < 2 ^ 31 by omega), nI_clamp (show w < 2 ^ 31 by omega)]; rw [cv_can_9 hB] at b33; rw [if_neg (by simp [b33])]; rfl), cv_RM_k (cv_fw_m f30) hR⟩
      · skip
        refine cv_bipush C (pc' := 26) rfl (D 11 (24, .bipush (-3), 2) rfl) (v := -3) (by decide) ?_
        exact cv_iret C Rt rfl (D 12 (26, .ireturn, 1) rfl) ⟨congrArg (fun z => some (Value.int z)) (by unfold cv_a_hangs cv_day2; rw [if_pos ⟨b4, b11⟩, if_neg (by omega)]), hR⟩
    · skip
      refine cv_bipush C (pc' := 16) rfl (D 6 (14, .bipush (-2), 2) rfl) (v := -2) (by decide) ?_
      exact cv_iret C Rt rfl (D 7 (16, .ireturn, 1) rfl) ⟨congrArg (fun z => some (Value.int z)) (by unfold cv_a_hangs cv_day2; rw [if_neg (by simp [b11])]), hR⟩

/-- the least of the gifts asked for, so far -/
def cv_pk (o : Option Nat) (i : Nat) (b : Bool) : Option Nat := match o with
  | none => if b = true then some i else none
  | some z => if i < z ∧ b = true then some i else some z
def cv_p4 (c : Nat → Bool) : Nat → Option Nat
  | 0 => none
  | k + 1 => cv_pk (cv_p4 c k) (k % 2 + k / 2) (c k)
theorem cv_p4_le {c : Nat → Bool} : ∀ k z, k ≤ 4 → cv_p4 c k = some z → z ≤ 2
  | 0, z, _, h => by cases h
  | k + 1, z, hk, h => by
    simp only [cv_p4] at h
    unfold cv_pk at h
    split at h
    · split at h
      · cases h; omega
      · cases h
    · rename_i y hy
      have := cv_p4_le k y (by omega) hy
      split at h
      · cases h; omega
      · cases h; exact this
def cv_pc4 (L : cv_L) (j w k : Nat) : Bool := cv_can L (-9) j w (if k % 2 = 1 then 255 else L 6 1) (if k / 2 = 1 then 255 else L 6 2)
theorem cv_p4_eq {L : cv_L} (hB : cv_LB L) (j w : Nat) : cv_p4 (cv_pc4 L j w) 4 = cv_pe (cv_RT L (fun q => decide (nI q = -1)) 8) (L 6 0) (L 6 1) (L 6 2) j w := by
  have h0 : cv_pc4 L j w 0 = cv_by (cv_dw (cv_RT L (fun q => decide (nI q = -1)) 8) (L 6 0) j (L 6 1) (L 6 2)) w := cv_can_9 hB _ _ _ _
  have h1 : cv_pc4 L j w 1 = cv_by (cv_dw (cv_RT L (fun q => decide (nI q = -1)) 8) (L 6 0) j 255 (L 6 2)) w := cv_can_9 hB _ _ _ _
  have h2 : cv_pc4 L j w 2 = cv_by (cv_dw (cv_RT L (fun q => decide (nI q = -1)) 8) (L 6 0) j (L 6 1) 255) w := cv_can_9 hB _ _ _ _
  have h3 : cv_pc4 L j w 3 = cv_by (cv_dw (cv_RT L (fun q => decide (nI q = -1)) 8) (L 6 0) j 255 255) w := cv_can_9 hB _ _ _ _
  unfold cv_pe
  rw [← h0, ← h1, ← h2, ← h3]
  simp only [cv_p4]
  cases cv_pc4 L j w 0 <;> cases cv_pc4 L j w 1 <;> cases cv_pc4 L j w 2 <;> cases cv_pc4 L j w 3 <;> rfl
set_option maxHeartbeats 4000000 in
set_option maxRecDepth 100000 in
theorem pX7_peace (tr : Int32) (ft : Nat) (sl : Nat → Option (Nat × Nat)) (sc : Nat → Nat → Int32) (L : cv_L) (rc : Nat) (rd : Nat → Nat) (rn : Nat → Option Nat) (x y : Int32) (μ : cv_St) (hR : cv_RM tr ft sl sc L rc rd rn μ) (hB : cv_LB L) (hDB : cv_DB rc rd rn) : cv_Ct yX7_peace cX7_peace 8 (some .int) 6 0 0 17 cv_shM [.ref 0, .int x, .int y] μ (fun v u => v = some (.int (cv_a_peace L x y)) ∧ cv_RM tr ft sl sc L rc rd rn u) := by
  refine cv_enter (own := RX7) (by decide) rfl (Nat.le_of_ble_eq_true rfl) ?_
  intro X a C Rt hRm
  have D := @cv_dec _ _ dkX7_peace
  obtain ⟨hTr, hFt, hSh, hL, hM, hD⟩ := id hR
  have hn6 := hB.1
  have hrc := hDB.1
  have hg1 := hB.2.2.2 1 (by decide)
  have hg2 := hB.2.2.2 2 (by decide)
  show cv_At X _ _ μ 0 [(0, .ref 0), (1, .int x), (2, .int y)] []
  refine cv_iload_n C (pc' := 1) rfl (D 0 (0, .iload_n 1, 1) rfl) rfl (j := 1) rfl ?_
  refine cv_callS C (pc' := 4) rfl (As := [.int x]) (rest := []) (idx := 124) (np := 1) (kX7_isDay x μ) (by decide +kernel) rfl wmX7_124 wt_yX7_isDay wn_X7 wc_yX7_isDay (by decide) (by decide) (D 1 (1, .invokestatic 124, 3) rfl) (Nat.le_of_ble_eq_true rfl) rfl (fun w9 u9 h9 => ?_)
  rw [h9.1, h9.2]
  show cv_At X _ _ μ 4 _ [.int (cv_b (cv_in x 8))]
  refine cv_if_eqB C (pc' := 7) rfl (tgt := 14) (D 2 (4, .ifCond .eq 10, 3) rfl) (by decide) (fun b4 => ?_) (fun b4 => ?_)
  · skip
    refine cv_bipush C (pc' := 16) rfl (D 6 (14, .bipush (-2), 2) rfl) (v := -2) (by decide) ?_
    exact cv_iret C Rt rfl (D 7 (16, .ireturn, 1) rfl) ⟨congrArg (fun z => some (Value.int z)) (by unfold cv_a_peace cv_day2; rw [if_neg (by simp [b4])]), hR⟩
  · skip
    refine cv_iload_n C (pc' := 8) rfl (D 3 (7, .iload_n 2, 1) rfl) rfl (j := 2) rfl ?_
    refine cv_callS C (pc' := 11) rfl (As := [.int y]) (rest := []) (idx := 124) (np := 1) (kX7_isDay y μ) (by decide +kernel) rfl wmX7_124 wt_yX7_isDay wn_X7 wc_yX7_isDay (by decide) (by decide) (D 4 (8, .invokestatic 124, 3) rfl) (Nat.le_of_ble_eq_true rfl) rfl (fun w9 u9 h9 => ?_)
    rw [h9.1, h9.2]
    show cv_At X _ _ μ 11 _ [.int (cv_b (cv_in y 8))]
    refine cv_if_neB C (pc' := 14) rfl (tgt := 17) (D 5 (11, .ifCond .ne 6, 3) rfl) (by decide) (fun b11 => ?_) (fun b11 => ?_)
    · skip
      obtain ⟨j, hj, rfl⟩ := cv_in_of b4 (by omega)
      obtain ⟨w, hw, rfl⟩ := cv_in_of b11 (by omega)
      refine cv_aload_n C (pc' := 18) rfl (D 8 (17, .aload_n 0, 1) rfl) rfl (j := 0) rfl ?_
      refine cv_get C (pc' := 21) rfl (k0 := 0) (i := 5) (ci := 7) (by decide) rfl rfl (by decide) (o := none) rfl iw_X7 wfX7_71 (D 9 (18, .getfield 71, 3) rfl) (v := .int (nI (L 7 0))) (congrArg Value.int hL.1) ?_
      refine cv_if_neN C (pc' := 24) rfl (by omega) (tgt := 27) (D 10 (21, .ifCond .ne 6, 3) rfl) (by decide) (fun b21 => ?_) (fun b21 => ?_)
      · skip
        refine cv_aload_n C (pc' := 28) rfl (D 13 (27, .aload_n 0, 1) rfl) rfl (j := 0) rfl ?_
        refine cv_get C (pc' := 31) rfl (k0 := 0) (i := 7) (ci := 7) (by decide) rfl rfl (by decide) (o := some 5) rfl iw_X7 wfX7_22 (D 14 (28, .getfield 22, 3) rfl) rfl ?_
        refine cv_iconst C (pc' := 32) rfl (D 15 (31, .iconst 1, 1) rfl) (v := nI 1) (by decide) ?_
        refine cv_iald C (pc' := 33) rfl (k0 := 5) (j := 1) (by decide) rfl rfl (by omega) (by decide) (D 16 (32, .iaload, 1) rfl) (v := nI (L 6 1)) (hL.2.2.1 _ (by omega)) ?_
        refine cv_istore_n C (pc' := 34) rfl (D 17 (33, .istore_n 3, 1) rfl) rfl (by decide) (lv' := [(3, .int (nI (L 6 1))), (0, .ref 0), (1, .int (nI j)), (2, .int (nI w))]) rfl ?_
        refine cv_aload_n C (pc' := 35) rfl (D 18 (34, .aload_n 0, 1) rfl) rfl (j := 1) rfl ?_
        refine cv_get C (pc' := 38) rfl (k0 := 0) (i := 7) (ci := 7) (by decide) rfl rfl (by decide) (o := some 5) rfl iw_X7 wfX7_22 (D 19 (35, .getfield 22, 3) rfl) rfl ?_
        refine cv_iconst C (pc' := 39) rfl (D 20 (38, .iconst 2, 1) rfl) (v := nI 2) (by decide) ?_
        refine cv_iald C (pc' := 40) rfl (k0 := 5) (j := 2) (by decide) rfl rfl (by omega) (by decide) (D 21 (39, .iaload, 1) rfl) (v := nI (L 6 2)) (hL.2.2.1 _ (by omega)) ?_
        refine cv_istore C (pc' := 42) rfl (D 22 (40, .istore 4, 2) rfl) (by decide) (lv' := [(4, .int (nI (L 6 2))), (3, .int (nI (L 6 1))), (0, .ref 0), (1, .int (nI j)), (2, .int (nI w))]) rfl ?_
        refine cv_bipush C (pc' := 44) rfl (D 23 (42, .bipush (-9), 2) rfl) (v := -9) (by decide) ?_
        refine cv_istore C (pc' := 46) rfl (D 24 (44, .istore 5, 2) rfl) (by decide) (lv' := [(5, .int (-9)), (4, .int (nI (L 6 2))), (3, .int (nI (L 6 1))), (0, .ref 0), (1, .int (nI j)), (2, .int (nI w))]) rfl ?_
        refine cv_iconst C (pc' := 47) rfl (D 25 (46, .iconst 0, 1) rfl) (v := nI 0) (by decide) ?_
        refine cv_istore C (pc' := 49) rfl (D 26 (47, .istore 6, 2) rfl) (by decide) (lv' := [(6, .int (nI 0)), (5, .int (-9)), (4, .int (nI (L 6 2))), (3, .int (nI (L 6 1))), (0, .ref 0), (1, .int (nI j)), (2, .int (nI w))]) rfl ?_
        refine cv_pick [0, 1, 4, 5, 6, 3, 2] (lv' := [(6, .int (nI 0)), (5, .int (cv_o (cv_p4 (cv_pc4 L j w) 0))), (0, .ref 0), (1, .int (nI j)), (2, .int (nI w)), (3, .int (nI (L 6 1))), (4, .int (nI (L 6 2)))]) rfl ?_
        have LP49 : ∀ (r : Nat) (k : Nat) (τ : cv_St), (k + r = 4) → (cv_fg μ τ) → cv_At X (17, cv_shM, 0, 0, a) 8 τ 49 [(6, .int (nI k)), (5, .int (cv_o (cv_p4 (cv_pc4 L j w) k))), (0, .ref 0), (1, .int (nI j)), (2, .int (nI w)), (3, .int (nI (L 6 1))), (4, .int (nI (L 6 2)))] [] := by
          intro r
          induction r with
          | zero =>
            intro k τ hr hGτ
            refine cv_iload C (pc' := 51) rfl (D 27 (49, .iload 6, 2) rfl) (j := 0) rfl ?_
            refine cv_iconst C (pc' := 52) rfl (D 28 (51, .iconst 4, 1) rfl) (v := nI 4) (by decide) ?_
            refine cv_icmp_geN C (pc' := 55) rfl (by omega) (by omega) (tgt := 142) (D 29 (52, .if_icmp .ge 90, 3) rfl) (by decide) (fun b52 => ?_) (fun b52 => ?_)
            · skip
              refine cv_aload_n C (pc' := 143) rfl (D 77 (142, .aload_n 0, 1) rfl) rfl (j := 2) rfl ?_
              refine cv_get C (pc' := 146) rfl (k0 := 0) (i := 7) (ci := 7) (by decide) rfl rfl (by decide) (o := some 5) rfl iw_X7 wfX7_22 (D 78 (143, .getfield 22, 3) rfl) rfl ?_
              refine cv_iconst C (pc' := 147) rfl (D 79 (146, .iconst 1, 1) rfl) (v := nI 1) (by decide) ?_
              refine cv_iload_n C (pc' := 148) rfl (D 80 (147, .iload_n 3, 1) rfl) rfl (j := 5) rfl ?_
              refine cv_iast C (pc' := 149) rfl (k0 := 5) (j := 1) (by decide) rfl rfl (by omega) (by decide) (D 81 (148, .iastore, 1) rfl) ?_
              refine cv_aload_n C (pc' := 150) rfl (D 82 (149, .aload_n 0, 1) rfl) rfl (j := 2) rfl ?_
              refine cv_get C (pc' := 153) rfl (k0 := 0) (i := 7) (ci := 7) (by decide) rfl rfl (by decide) (o := some 5) rfl iw_X7 wfX7_22 (D 83 (150, .getfield 22, 3) rfl) rfl ?_
              refine cv_iconst C (pc' := 154) rfl (D 84 (153, .iconst 2, 1) rfl) (v := nI 2) (by decide) ?_
              refine cv_iload C (pc' := 156) rfl (D 85 (154, .iload 4, 2) rfl) (j := 6) rfl ?_
              refine cv_iast C (pc' := 157) rfl (k0 := 5) (j := 2) (by decide) rfl rfl (by omega) (by decide) (D 86 (156, .iastore, 1) rfl) ?_
              refine cv_iload C (pc' := 159) rfl (D 87 (157, .iload 5, 2) rfl) (j := 1) rfl ?_
              exact cv_iret C Rt rfl (D 88 (159, .ireturn, 1) rfl) ⟨congrArg (fun z => some (Value.int z)) (by unfold cv_a_peace cv_day2; rw [if_pos ⟨b4, b11⟩, if_pos (by omega)]; simp only [cv_nt, nI_clamp (show j < 2 ^ 31 by omega), nI_clamp (show w < 2 ^ 31 by omega)]; rw [show k = 4 by omega, cv_p4_eq hB]), cv_RM_k (cv_fw_m (cv_fg_fw hL hGτ)) hR⟩
            · skip
              omega
          | succ r ih49 =>
            intro k τ hr hGτ
            refine cv_iload C (pc' := 51) rfl (D 27 (49, .iload 6, 2) rfl) (j := 0) rfl ?_
            refine cv_iconst C (pc' := 52) rfl (D 28 (51, .iconst 4, 1) rfl) (v := nI 4) (by decide) ?_
            refine cv_icmp_geN C (pc' := 55) rfl (by omega) (by omega) (tgt := 142) (D 29 (52, .if_icmp .ge 90, 3) rfl) (by decide) (fun b52 => ?_) (fun b52 => ?_)
            · skip
              omega
            · skip
              refine cv_iload C (pc' := 57) rfl (D 30 (55, .iload 6, 2) rfl) (j := 0) rfl ?_
              refine cv_iconst C (pc' := 58) rfl (D 31 (57, .iconst 2, 1) rfl) (v := nI 2) (by decide) ?_
              refine cv_iremN C (pc' := 59) rfl (by omega) (by decide) (by decide) (D 32 (58, .irem, 1) rfl) ?_
              refine cv_iload C (pc' := 61) rfl (D 33 (59, .iload 6, 2) rfl) (j := 0) rfl ?_
              refine cv_iconst C (pc' := 62) rfl (D 34 (61, .iconst 2, 1) rfl) (v := nI 2) (by decide) ?_
              refine cv_idivN C (pc' := 63) rfl (by omega) (by decide) (by decide) (D 35 (62, .idiv, 1) rfl) ?_
              refine cv_iaddN C (pc' := 64) rfl (D 36 (63, .iadd, 1) rfl) ?_
              refine cv_istore C (pc' := 66) rfl (D 37 (64, .istore 7, 2) rfl) (by decide) (lv' := [(7, .int (nI ((k % 2) + (k / 2)))), (6, .int (nI k)), (5, .int (cv_o (cv_p4 (cv_pc4 L j w) k))), (0, .ref 0), (1, .int (nI j)), (2, .int (nI w)), (3, .int (nI (L 6 1))), (4, .int (nI (L 6 2)))]) rfl ?_
              refine cv_aload_n C (pc' := 67) rfl (D 38 (66, .aload_n 0, 1) rfl) rfl (j := 3) rfl ?_
              refine cv_get C (pc' := 70) rfl (k0 := 0) (i := 7) (ci := 7) (by decide) rfl rfl (by decide) (o := some 5) rfl iw_X7 wfX7_22 (D 39 (67, .getfield 22, 3) rfl) rfl ?_
              refine cv_iconst C (pc' := 71) rfl (D 40 (70, .iconst 1, 1) rfl) (v := nI 1) (by decide) ?_
              refine cv_iload C (pc' := 73) rfl (D 41 (71, .iload 6, 2) rfl) (j := 1) rfl ?_
              refine cv_iconst C (pc' := 74) rfl (D 42 (73, .iconst 2, 1) rfl) (v := nI 2) (by decide) ?_
              refine cv_iremN C (pc' := 75) rfl (by omega) (by decide) (by decide) (D 43 (74, .irem, 1) rfl) ?_
              refine cv_iconst C (pc' := 76) rfl (D 44 (75, .iconst 1, 1) rfl) (v := nI 1) (by decide) ?_
              refine cv_icmp_neN C (pc' := 79) rfl (by omega) (by omega) (tgt := 85) (D 45 (76, .if_icmp .ne 9, 3) rfl) (by decide) (fun b76 => ?_) (fun b76 => ?_)
              · skip
                refine cv_iload_n C (pc' := 86) rfl (D 48 (85, .iload_n 3, 1) rfl) rfl (j := 6) rfl ?_
                refine cv_iast C (pc' := 87) rfl (k0 := 5) (j := 1) (by decide) rfl rfl (by omega) (by decide) (D 49 (86, .iastore, 1) rfl) ?_
                refine cv_aload_n C (pc' := 88) rfl (D 50 (87, .aload_n 0, 1) rfl) rfl (j := 3) rfl ?_
                refine cv_get C (pc' := 91) rfl (k0 := 0) (i := 7) (ci := 7) (by decide) rfl rfl (by decide) (o := some 5) rfl iw_X7 wfX7_22 (D 51 (88, .getfield 22, 3) rfl) rfl ?_
                refine cv_iconst C (pc' := 92) rfl (D 52 (91, .iconst 2, 1) rfl) (v := nI 2) (by decide) ?_
                refine cv_iload C (pc' := 94) rfl (D 53 (92, .iload 6, 2) rfl) (j := 1) rfl ?_
                refine cv_iconst C (pc' := 95) rfl (D 54 (94, .iconst 2, 1) rfl) (v := nI 2) (by decide) ?_
                refine cv_idivN C (pc' := 96) rfl (by omega) (by decide) (by decide) (D 55 (95, .idiv, 1) rfl) ?_
                refine cv_iconst C (pc' := 97) rfl (D 56 (96, .iconst 1, 1) rfl) (v := nI 1) (by decide) ?_
                refine cv_icmp_neN C (pc' := 100) rfl (by omega) (by omega) (tgt := 106) (D 57 (97, .if_icmp .ne 9, 3) rfl) (by decide) (fun b97 => ?_) (fun b97 => ?_)
                · skip
                  refine cv_iload C (pc' := 108) rfl (D 60 (106, .iload 4, 2) rfl) (j := 7) rfl ?_
                  refine cv_iast C (pc' := 109) rfl (k0 := 5) (j := 2) (by decide) rfl rfl (by omega) (by decide) (D 61 (108, .iastore, 1) rfl) ?_
                  refine cv_iload C (pc' := 111) rfl (D 62 (109, .iload 5, 2) rfl) (j := 2) rfl ?_
                  refine cv_bipush C (pc' := 113) rfl (D 63 (111, .bipush (-9), 2) rfl) (v := -9) (by decide) ?_
                  refine cv_icmp_eqO C (pc' := 116) rfl (fun z h => by have := cv_p4_le _ _ (by omega) h; omega) (tgt := 123) (D 64 (113, .if_icmp .eq 10, 3) rfl) (by decide) (fun b113 => ?_) (fun z113 b113 => ?_)
                  · skip
                    refine cv_aload_n C (pc' := 124) rfl (D 68 (123, .aload_n 0, 1) rfl) rfl (j := 3) rfl ?_
                    refine cv_iload_n C (pc' := 125) rfl (D 69 (124, .iload_n 1, 1) rfl) rfl (j := 4) rfl ?_
                    refine cv_iload_n C (pc' := 126) rfl (D 70 (125, .iload_n 2, 1) rfl) rfl (j := 5) rfl ?_
                    have hLs := cv_LM_fg hL hGτ (L 6 1) (L 6 2)
                    refine cv_callV C (pc' := 129) rfl (k0 := 0) (ci := 7) (As := [.int (nI j), .int (nI w)]) (rest := []) (idx := 182) (np := 2) (kX7_canBy (cv_lu (cv_lu L 6 1 (L 6 1)) 6 2 (L 6 2)) (-9) j w (cv_u (cv_u τ 5 1 (nI (L 6 1))) 5 2 (nI (L 6 2))) hLs (cv_LB_12 hB (by omega) (by omega)) (by rw [cv_u_c (by decide), cv_u_c (by decide), hGτ.2.1 13 (by decide) (by decide)]; exact hM) (by omega) (by omega)) (by decide) rfl rfl rfl (by decide +kernel) rfl wmX7_182 wi_yX7_canBy ws_yX7_canBy wn_X7 wc_yX7_canBy (by decide) (by decide) (D 71 (126, .invokevirtual 182, 3) rfl) (Nat.le_of_ble_eq_true rfl) rfl (fun w126 u126 h126 => ?_)
                    obtain ⟨e126, f126⟩ := h126
                    rw [e126, cv_can_give, (cv_lu_12 L (L 6 1) (L 6 2)).1, (cv_lu_12 L (L 6 1) (L 6 2)).2]
                    have hc9 : cv_can L (-9) j w (L 6 1) (L 6 2) = cv_pc4 L j w k := by unfold cv_pc4; rw [if_neg b76, if_neg b97]
                    rw [hc9]
                    have hGu126 : cv_fg μ u126 := cv_fg_w (cv_fg_12 hGτ _ _) f126
                    show cv_At X _ _ u126 129 _ [.int (cv_b (cv_pc4 L j w k))]
                    refine cv_if_eqB C (pc' := 132) rfl (tgt := 136) (D 72 (129, .ifCond .eq 7, 3) rfl) (by decide) (fun b129 => ?_) (fun b129 => ?_)
                    · skip
                      refine cv_iincN C (pc' := 139) rfl (D 75 (136, .iinc 6 1, 3) rfl) (j := 1) rfl (by decide) (lv' := [(6, .int (nI (k + 1))), (7, .int (nI ((k % 2) + (k / 2)))), (5, .int (cv_o (cv_p4 (cv_pc4 L j w) k))), (0, .ref 0), (1, .int (nI j)), (2, .int (nI w)), (3, .int (nI (L 6 1))), (4, .int (nI (L 6 2)))]) rfl ?_
                      refine cv_goto C (tgt := 49) (D 76 (139, .goto (-90), 3) rfl) (by decide) ?_
                      have hw9 : cv_o (cv_p4 (cv_pc4 L j w) k) = cv_o (cv_p4 (cv_pc4 L j w) (k + 1)) := by simp only [cv_p4]; rw [b113]; unfold cv_pk; dsimp only; rw [if_neg (by simp [b129])]; try rfl
                      rw [hw9]
                      refine cv_pick [0, 2, 3, 4, 5, 6, 7] (lv' := [(6, .int (nI (k + 1))), (5, .int (cv_o (cv_p4 (cv_pc4 L j w) (k + 1)))), (0, .ref 0), (1, .int (nI j)), (2, .int (nI w)), (3, .int (nI (L 6 1))), (4, .int (nI (L 6 2)))]) rfl ?_
                      exact ih49 (k + 1) u126 (by omega) hGu126
                    · skip
                      refine cv_iload C (pc' := 134) rfl (D 73 (132, .iload 7, 2) rfl) (j := 0) rfl ?_
                      refine cv_istore C (pc' := 136) rfl (D 74 (134, .istore 5, 2) rfl) (by decide) (lv' := [(5, .int (nI ((k % 2) + (k / 2)))), (7, .int (nI ((k % 2) + (k / 2)))), (6, .int (nI k)), (0, .ref 0), (1, .int (nI j)), (2, .int (nI w)), (3, .int (nI (L 6 1))), (4, .int (nI (L 6 2)))]) rfl ?_
                      refine cv_iincN C (pc' := 139) rfl (D 75 (136, .iinc 6 1, 3) rfl) (j := 2) rfl (by decide) (lv' := [(6, .int (nI (k + 1))), (5, .int (nI ((k % 2) + (k / 2)))), (7, .int (nI ((k % 2) + (k / 2)))), (0, .ref 0), (1, .int (nI j)), (2, .int (nI w)), (3, .int (nI (L 6 1))), (4, .int (nI (L 6 2)))]) rfl ?_
                      refine cv_goto C (tgt := 49) (D 76 (139, .goto (-90), 3) rfl) (by decide) ?_
                      have hw9 : nI ((k % 2) + (k / 2)) = cv_o (cv_p4 (cv_pc4 L j w) (k + 1)) := by simp only [cv_p4]; rw [b113]; unfold cv_pk; dsimp only; rw [if_pos b129]; rfl
                      rw [hw9]
                      refine cv_pick [0, 1, 3, 4, 5, 6, 7] (lv' := [(6, .int (nI (k + 1))), (5, .int (cv_o (cv_p4 (cv_pc4 L j w) (k + 1)))), (0, .ref 0), (1, .int (nI j)), (2, .int (nI w)), (3, .int (nI (L 6 1))), (4, .int (nI (L 6 2)))]) rfl ?_
                      exact ih49 (k + 1) u126 (by omega) hGu126
                  · skip
                    have ez113 : cv_o (cv_p4 (cv_pc4 L j w) k) = nI z113 := by rw [b113]; rfl
                    rw [ez113]
                    have hz113 := cv_p4_le _ _ (by omega) b113
                    refine cv_iload C (pc' := 118) rfl (D 65 (116, .iload 7, 2) rfl) (j := 0) rfl ?_
                    refine cv_iload C (pc' := 120) rfl (D 66 (118, .iload 5, 2) rfl) (j := 2) rfl ?_
                    refine cv_icmp_geN C (pc' := 123) rfl (by omega) (by omega) (tgt := 136) (D 67 (120, .if_icmp .ge 16, 3) rfl) (by decide) (fun b120 => ?_) (fun b120 => ?_)
                    · skip
                      refine cv_iincN C (pc' := 139) rfl (D 75 (136, .iinc 6 1, 3) rfl) (j := 1) rfl (by decide) (lv' := [(6, .int (nI (k + 1))), (7, .int (nI ((k % 2) + (k / 2)))), (5, .int (nI z113)), (0, .ref 0), (1, .int (nI j)), (2, .int (nI w)), (3, .int (nI (L 6 1))), (4, .int (nI (L 6 2)))]) rfl ?_
                      refine cv_goto C (tgt := 49) (D 76 (139, .goto (-90), 3) rfl) (by decide) ?_
                      have hw9 : nI z113 = cv_o (cv_p4 (cv_pc4 L j w) (k + 1)) := by simp only [cv_p4]; rw [b113]; unfold cv_pk; dsimp only; rw [if_neg (by omega)]; rfl
                      rw [hw9]
                      refine cv_pick [0, 2, 3, 4, 5, 6, 7] (lv' := [(6, .int (nI (k + 1))), (5, .int (cv_o (cv_p4 (cv_pc4 L j w) (k + 1)))), (0, .ref 0), (1, .int (nI j)), (2, .int (nI w)), (3, .int (nI (L 6 1))), (4, .int (nI (L 6 2)))]) rfl ?_
                      exact ih49 (k + 1) (cv_u (cv_u τ 5 1 (nI (L 6 1))) 5 2 (nI (L 6 2))) (by omega) (cv_fg_12 hGτ _ _)
                    · skip
                      refine cv_aload_n C (pc' := 124) rfl (D 68 (123, .aload_n 0, 1) rfl) rfl (j := 3) rfl ?_
                      refine cv_iload_n C (pc' := 125) rfl (D 69 (124, .iload_n 1, 1) rfl) rfl (j := 4) rfl ?_
                      refine cv_iload_n C (pc' := 126) rfl (D 70 (125, .iload_n 2, 1) rfl) rfl (j := 5) rfl ?_
                      have hLs := cv_LM_fg hL hGτ (L 6 1) (L 6 2)
                      refine cv_callV C (pc' := 129) rfl (k0 := 0) (ci := 7) (As := [.int (nI j), .int (nI w)]) (rest := []) (idx := 182) (np := 2) (kX7_canBy (cv_lu (cv_lu L 6 1 (L 6 1)) 6 2 (L 6 2)) (-9) j w (cv_u (cv_u τ 5 1 (nI (L 6 1))) 5 2 (nI (L 6 2))) hLs (cv_LB_12 hB (by omega) (by omega)) (by rw [cv_u_c (by decide), cv_u_c (by decide), hGτ.2.1 13 (by decide) (by decide)]; exact hM) (by omega) (by omega)) (by decide) rfl rfl rfl (by decide +kernel) rfl wmX7_182 wi_yX7_canBy ws_yX7_canBy wn_X7 wc_yX7_canBy (by decide) (by decide) (D 71 (126, .invokevirtual 182, 3) rfl) (Nat.le_of_ble_eq_true rfl) rfl (fun w126 u126 h126 => ?_)
                      obtain ⟨e126, f126⟩ := h126
                      rw [e126, cv_can_give, (cv_lu_12 L (L 6 1) (L 6 2)).1, (cv_lu_12 L (L 6 1) (L 6 2)).2]
                      have hc9 : cv_can L (-9) j w (L 6 1) (L 6 2) = cv_pc4 L j w k := by unfold cv_pc4; rw [if_neg b76, if_neg b97]
                      rw [hc9]
                      have hGu126 : cv_fg μ u126 := cv_fg_w (cv_fg_12 hGτ _ _) f126
                      show cv_At X _ _ u126 129 _ [.int (cv_b (cv_pc4 L j w k))]
                      refine cv_if_eqB C (pc' := 132) rfl (tgt := 136) (D 72 (129, .ifCond .eq 7, 3) rfl) (by decide) (fun b129 => ?_) (fun b129 => ?_)
                      · skip
                        refine cv_iincN C (pc' := 139) rfl (D 75 (136, .iinc 6 1, 3) rfl) (j := 1) rfl (by decide) (lv' := [(6, .int (nI (k + 1))), (7, .int (nI ((k % 2) + (k / 2)))), (5, .int (nI z113)), (0, .ref 0), (1, .int (nI j)), (2, .int (nI w)), (3, .int (nI (L 6 1))), (4, .int (nI (L 6 2)))]) rfl ?_
                        refine cv_goto C (tgt := 49) (D 76 (139, .goto (-90), 3) rfl) (by decide) ?_
                        have hw9 : nI z113 = cv_o (cv_p4 (cv_pc4 L j w) (k + 1)) := by simp only [cv_p4]; rw [b113]; unfold cv_pk; dsimp only; rw [if_neg (by simp [b129])]; rfl
                        rw [hw9]
                        refine cv_pick [0, 2, 3, 4, 5, 6, 7] (lv' := [(6, .int (nI (k + 1))), (5, .int (cv_o (cv_p4 (cv_pc4 L j w) (k + 1)))), (0, .ref 0), (1, .int (nI j)), (2, .int (nI w)), (3, .int (nI (L 6 1))), (4, .int (nI (L 6 2)))]) rfl ?_
                        exact ih49 (k + 1) u126 (by omega) hGu126
                      · skip
                        refine cv_iload C (pc' := 134) rfl (D 73 (132, .iload 7, 2) rfl) (j := 0) rfl ?_
                        refine cv_istore C (pc' := 136) rfl (D 74 (134, .istore 5, 2) rfl) (by decide) (lv' := [(5, .int (nI ((k % 2) + (k / 2)))), (7, .int (nI ((k % 2) + (k / 2)))), (6, .int (nI k)), (0, .ref 0), (1, .int (nI j)), (2, .int (nI w)), (3, .int (nI (L 6 1))), (4, .int (nI (L 6 2)))]) rfl ?_
                        refine cv_iincN C (pc' := 139) rfl (D 75 (136, .iinc 6 1, 3) rfl) (j := 2) rfl (by decide) (lv' := [(6, .int (nI (k + 1))), (5, .int (nI ((k % 2) + (k / 2)))), (7, .int (nI ((k % 2) + (k / 2)))), (0, .ref 0), (1, .int (nI j)), (2, .int (nI w)), (3, .int (nI (L 6 1))), (4, .int (nI (L 6 2)))]) rfl ?_
                        refine cv_goto C (tgt := 49) (D 76 (139, .goto (-90), 3) rfl) (by decide) ?_
                        have hw9 : nI ((k % 2) + (k / 2)) = cv_o (cv_p4 (cv_pc4 L j w) (k + 1)) := by simp only [cv_p4]; rw [b113]; unfold cv_pk; dsimp only; rw [if_pos ⟨by omega, b129⟩]; rfl
                        rw [hw9]
                        refine cv_pick [0, 1, 3, 4, 5, 6, 7] (lv' := [(6, .int (nI (k + 1))), (5, .int (cv_o (cv_p4 (cv_pc4 L j w) (k + 1)))), (0, .ref 0), (1, .int (nI j)), (2, .int (nI w)), (3, .int (nI (L 6 1))), (4, .int (nI (L 6 2)))]) rfl ?_
                        exact ih49 (k + 1) u126 (by omega) hGu126
                · skip
                  refine cv_sipush C (pc' := 103) rfl (D 58 (100, .sipush 255, 3) rfl) (v := nI 255) (by decide) ?_
                  refine cv_goto C (tgt := 108) (D 59 (103, .goto 5, 3) rfl) (by decide) ?_
                  refine cv_iast C (pc' := 109) rfl (k0 := 5) (j := 2) (by decide) rfl rfl (by omega) (by decide) (D 61 (108, .iastore, 1) rfl) ?_
                  refine cv_iload C (pc' := 111) rfl (D 62 (109, .iload 5, 2) rfl) (j := 2) rfl ?_
                  refine cv_bipush C (pc' := 113) rfl (D 63 (111, .bipush (-9), 2) rfl) (v := -9) (by decide) ?_
                  refine cv_icmp_eqO C (pc' := 116) rfl (fun z h => by have := cv_p4_le _ _ (by omega) h; omega) (tgt := 123) (D 64 (113, .if_icmp .eq 10, 3) rfl) (by decide) (fun b113 => ?_) (fun z113 b113 => ?_)
                  · skip
                    refine cv_aload_n C (pc' := 124) rfl (D 68 (123, .aload_n 0, 1) rfl) rfl (j := 3) rfl ?_
                    refine cv_iload_n C (pc' := 125) rfl (D 69 (124, .iload_n 1, 1) rfl) rfl (j := 4) rfl ?_
                    refine cv_iload_n C (pc' := 126) rfl (D 70 (125, .iload_n 2, 1) rfl) rfl (j := 5) rfl ?_
                    have hLs := cv_LM_fg hL hGτ (L 6 1) 255
                    refine cv_callV C (pc' := 129) rfl (k0 := 0) (ci := 7) (As := [.int (nI j), .int (nI w)]) (rest := []) (idx := 182) (np := 2) (kX7_canBy (cv_lu (cv_lu L 6 1 (L 6 1)) 6 2 255) (-9) j w (cv_u (cv_u τ 5 1 (nI (L 6 1))) 5 2 (nI 255)) hLs (cv_LB_12 hB (by omega) (by omega)) (by rw [cv_u_c (by decide), cv_u_c (by decide), hGτ.2.1 13 (by decide) (by decide)]; exact hM) (by omega) (by omega)) (by decide) rfl rfl rfl (by decide +kernel) rfl wmX7_182 wi_yX7_canBy ws_yX7_canBy wn_X7 wc_yX7_canBy (by decide) (by decide) (D 71 (126, .invokevirtual 182, 3) rfl) (Nat.le_of_ble_eq_true rfl) rfl (fun w126 u126 h126 => ?_)
                    obtain ⟨e126, f126⟩ := h126
                    rw [e126, cv_can_give, (cv_lu_12 L (L 6 1) 255).1, (cv_lu_12 L (L 6 1) 255).2]
                    have hc9 : cv_can L (-9) j w (L 6 1) 255 = cv_pc4 L j w k := by unfold cv_pc4; rw [if_neg b76, if_pos b97]
                    rw [hc9]
                    have hGu126 : cv_fg μ u126 := cv_fg_w (cv_fg_12 hGτ _ _) f126
                    show cv_At X _ _ u126 129 _ [.int (cv_b (cv_pc4 L j w k))]
                    refine cv_if_eqB C (pc' := 132) rfl (tgt := 136) (D 72 (129, .ifCond .eq 7, 3) rfl) (by decide) (fun b129 => ?_) (fun b129 => ?_)
                    · skip
                      refine cv_iincN C (pc' := 139) rfl (D 75 (136, .iinc 6 1, 3) rfl) (j := 1) rfl (by decide) (lv' := [(6, .int (nI (k + 1))), (7, .int (nI ((k % 2) + (k / 2)))), (5, .int (cv_o (cv_p4 (cv_pc4 L j w) k))), (0, .ref 0), (1, .int (nI j)), (2, .int (nI w)), (3, .int (nI (L 6 1))), (4, .int (nI (L 6 2)))]) rfl ?_
                      refine cv_goto C (tgt := 49) (D 76 (139, .goto (-90), 3) rfl) (by decide) ?_
                      have hw9 : cv_o (cv_p4 (cv_pc4 L j w) k) = cv_o (cv_p4 (cv_pc4 L j w) (k + 1)) := by simp only [cv_p4]; rw [b113]; unfold cv_pk; dsimp only; rw [if_neg (by simp [b129])]; try rfl
                      rw [hw9]
                      refine cv_pick [0, 2, 3, 4, 5, 6, 7] (lv' := [(6, .int (nI (k + 1))), (5, .int (cv_o (cv_p4 (cv_pc4 L j w) (k + 1)))), (0, .ref 0), (1, .int (nI j)), (2, .int (nI w)), (3, .int (nI (L 6 1))), (4, .int (nI (L 6 2)))]) rfl ?_
                      exact ih49 (k + 1) u126 (by omega) hGu126
                    · skip
                      refine cv_iload C (pc' := 134) rfl (D 73 (132, .iload 7, 2) rfl) (j := 0) rfl ?_
                      refine cv_istore C (pc' := 136) rfl (D 74 (134, .istore 5, 2) rfl) (by decide) (lv' := [(5, .int (nI ((k % 2) + (k / 2)))), (7, .int (nI ((k % 2) + (k / 2)))), (6, .int (nI k)), (0, .ref 0), (1, .int (nI j)), (2, .int (nI w)), (3, .int (nI (L 6 1))), (4, .int (nI (L 6 2)))]) rfl ?_
                      refine cv_iincN C (pc' := 139) rfl (D 75 (136, .iinc 6 1, 3) rfl) (j := 2) rfl (by decide) (lv' := [(6, .int (nI (k + 1))), (5, .int (nI ((k % 2) + (k / 2)))), (7, .int (nI ((k % 2) + (k / 2)))), (0, .ref 0), (1, .int (nI j)), (2, .int (nI w)), (3, .int (nI (L 6 1))), (4, .int (nI (L 6 2)))]) rfl ?_
                      refine cv_goto C (tgt := 49) (D 76 (139, .goto (-90), 3) rfl) (by decide) ?_
                      have hw9 : nI ((k % 2) + (k / 2)) = cv_o (cv_p4 (cv_pc4 L j w) (k + 1)) := by simp only [cv_p4]; rw [b113]; unfold cv_pk; dsimp only; rw [if_pos b129]; rfl
                      rw [hw9]
                      refine cv_pick [0, 1, 3, 4, 5, 6, 7] (lv' := [(6, .int (nI (k + 1))), (5, .int (cv_o (cv_p4 (cv_pc4 L j w) (k + 1)))), (0, .ref 0), (1, .int (nI j)), (2, .int (nI w)), (3, .int (nI (L 6 1))), (4, .int (nI (L 6 2)))]) rfl ?_
                      exact ih49 (k + 1) u126 (by omega) hGu126
                  · skip
                    have ez113 : cv_o (cv_p4 (cv_pc4 L j w) k) = nI z113 := by rw [b113]; rfl
                    rw [ez113]
                    have hz113 := cv_p4_le _ _ (by omega) b113
                    refine cv_iload C (pc' := 118) rfl (D 65 (116, .iload 7, 2) rfl) (j := 0) rfl ?_
                    refine cv_iload C (pc' := 120) rfl (D 66 (118, .iload 5, 2) rfl) (j := 2) rfl ?_
                    refine cv_icmp_geN C (pc' := 123) rfl (by omega) (by omega) (tgt := 136) (D 67 (120, .if_icmp .ge 16, 3) rfl) (by decide) (fun b120 => ?_) (fun b120 => ?_)
                    · skip
                      refine cv_iincN C (pc' := 139) rfl (D 75 (136, .iinc 6 1, 3) rfl) (j := 1) rfl (by decide) (lv' := [(6, .int (nI (k + 1))), (7, .int (nI ((k % 2) + (k / 2)))), (5, .int (nI z113)), (0, .ref 0), (1, .int (nI j)), (2, .int (nI w)), (3, .int (nI (L 6 1))), (4, .int (nI (L 6 2)))]) rfl ?_
                      refine cv_goto C (tgt := 49) (D 76 (139, .goto (-90), 3) rfl) (by decide) ?_
                      have hw9 : nI z113 = cv_o (cv_p4 (cv_pc4 L j w) (k + 1)) := by simp only [cv_p4]; rw [b113]; unfold cv_pk; dsimp only; rw [if_neg (by omega)]; rfl
                      rw [hw9]
                      refine cv_pick [0, 2, 3, 4, 5, 6, 7] (lv' := [(6, .int (nI (k + 1))), (5, .int (cv_o (cv_p4 (cv_pc4 L j w) (k + 1)))), (0, .ref 0), (1, .int (nI j)), (2, .int (nI w)), (3, .int (nI (L 6 1))), (4, .int (nI (L 6 2)))]) rfl ?_
                      exact ih49 (k + 1) (cv_u (cv_u τ 5 1 (nI (L 6 1))) 5 2 (nI 255)) (by omega) (cv_fg_12 hGτ _ _)
                    · skip
                      refine cv_aload_n C (pc' := 124) rfl (D 68 (123, .aload_n 0, 1) rfl) rfl (j := 3) rfl ?_
                      refine cv_iload_n C (pc' := 125) rfl (D 69 (124, .iload_n 1, 1) rfl) rfl (j := 4) rfl ?_
                      refine cv_iload_n C (pc' := 126) rfl (D 70 (125, .iload_n 2, 1) rfl) rfl (j := 5) rfl ?_
                      have hLs := cv_LM_fg hL hGτ (L 6 1) 255
                      refine cv_callV C (pc' := 129) rfl (k0 := 0) (ci := 7) (As := [.int (nI j), .int (nI w)]) (rest := []) (idx := 182) (np := 2) (kX7_canBy (cv_lu (cv_lu L 6 1 (L 6 1)) 6 2 255) (-9) j w (cv_u (cv_u τ 5 1 (nI (L 6 1))) 5 2 (nI 255)) hLs (cv_LB_12 hB (by omega) (by omega)) (by rw [cv_u_c (by decide), cv_u_c (by decide), hGτ.2.1 13 (by decide) (by decide)]; exact hM) (by omega) (by omega)) (by decide) rfl rfl rfl (by decide +kernel) rfl wmX7_182 wi_yX7_canBy ws_yX7_canBy wn_X7 wc_yX7_canBy (by decide) (by decide) (D 71 (126, .invokevirtual 182, 3) rfl) (Nat.le_of_ble_eq_true rfl) rfl (fun w126 u126 h126 => ?_)
                      obtain ⟨e126, f126⟩ := h126
                      rw [e126, cv_can_give, (cv_lu_12 L (L 6 1) 255).1, (cv_lu_12 L (L 6 1) 255).2]
                      have hc9 : cv_can L (-9) j w (L 6 1) 255 = cv_pc4 L j w k := by unfold cv_pc4; rw [if_neg b76, if_pos b97]
                      rw [hc9]
                      have hGu126 : cv_fg μ u126 := cv_fg_w (cv_fg_12 hGτ _ _) f126
                      show cv_At X _ _ u126 129 _ [.int (cv_b (cv_pc4 L j w k))]
                      refine cv_if_eqB C (pc' := 132) rfl (tgt := 136) (D 72 (129, .ifCond .eq 7, 3) rfl) (by decide) (fun b129 => ?_) (fun b129 => ?_)
                      · skip
                        refine cv_iincN C (pc' := 139) rfl (D 75 (136, .iinc 6 1, 3) rfl) (j := 1) rfl (by decide) (lv' := [(6, .int (nI (k + 1))), (7, .int (nI ((k % 2) + (k / 2)))), (5, .int (nI z113)), (0, .ref 0), (1, .int (nI j)), (2, .int (nI w)), (3, .int (nI (L 6 1))), (4, .int (nI (L 6 2)))]) rfl ?_
                        refine cv_goto C (tgt := 49) (D 76 (139, .goto (-90), 3) rfl) (by decide) ?_
                        have hw9 : nI z113 = cv_o (cv_p4 (cv_pc4 L j w) (k + 1)) := by simp only [cv_p4]; rw [b113]; unfold cv_pk; dsimp only; rw [if_neg (by simp [b129])]; rfl
                        rw [hw9]
                        refine cv_pick [0, 2, 3, 4, 5, 6, 7] (lv' := [(6, .int (nI (k + 1))), (5, .int (cv_o (cv_p4 (cv_pc4 L j w) (k + 1)))), (0, .ref 0), (1, .int (nI j)), (2, .int (nI w)), (3, .int (nI (L 6 1))), (4, .int (nI (L 6 2)))]) rfl ?_
                        exact ih49 (k + 1) u126 (by omega) hGu126
                      · skip
                        refine cv_iload C (pc' := 134) rfl (D 73 (132, .iload 7, 2) rfl) (j := 0) rfl ?_
                        refine cv_istore C (pc' := 136) rfl (D 74 (134, .istore 5, 2) rfl) (by decide) (lv' := [(5, .int (nI ((k % 2) + (k / 2)))), (7, .int (nI ((k % 2) + (k / 2)))), (6, .int (nI k)), (0, .ref 0), (1, .int (nI j)), (2, .int (nI w)), (3, .int (nI (L 6 1))), (4, .int (nI (L 6 2)))]) rfl ?_
                        refine cv_iincN C (pc' := 139) rfl (D 75 (136, .iinc 6 1, 3) rfl) (j := 2) rfl (by decide) (lv' := [(6, .int (nI (k + 1))), (5, .int (nI ((k % 2) + (k / 2)))), (7, .int (nI ((k % 2) + (k / 2)))), (0, .ref 0), (1, .int (nI j)), (2, .int (nI w)), (3, .int (nI (L 6 1))), (4, .int (nI (L 6 2)))]) rfl ?_
                        refine cv_goto C (tgt := 49) (D 76 (139, .goto (-90), 3) rfl) (by decide) ?_
                        have hw9 : nI ((k % 2) + (k / 2)) = cv_o (cv_p4 (cv_pc4 L j w) (k + 1)) := by simp only [cv_p4]; rw [b113]; unfold cv_pk; dsimp only; rw [if_pos ⟨by omega, b129⟩]; rfl
                        rw [hw9]
                        refine cv_pick [0, 1, 3, 4, 5, 6, 7] (lv' := [(6, .int (nI (k + 1))), (5, .int (cv_o (cv_p4 (cv_pc4 L j w) (k + 1)))), (0, .ref 0), (1, .int (nI j)), (2, .int (nI w)), (3, .int (nI (L 6 1))), (4, .int (nI (L 6 2)))]) rfl ?_
                        exact ih49 (k + 1) u126 (by omega) hGu126
              · skip
                refine cv_sipush C (pc' := 82) rfl (D 46 (79, .sipush 255, 3) rfl) (v := nI 255) (by decide) ?_
                refine cv_goto C (tgt := 86) (D 47 (82, .goto 4, 3) rfl) (by decide) ?_
                refine cv_iast C (pc' := 87) rfl (k0 := 5) (j := 1) (by decide) rfl rfl (by omega) (by decide) (D 49 (86, .iastore, 1) rfl) ?_
                refine cv_aload_n C (pc' := 88) rfl (D 50 (87, .aload_n 0, 1) rfl) rfl (j := 3) rfl ?_
                refine cv_get C (pc' := 91) rfl (k0 := 0) (i := 7) (ci := 7) (by decide) rfl rfl (by decide) (o := some 5) rfl iw_X7 wfX7_22 (D 51 (88, .getfield 22, 3) rfl) rfl ?_
                refine cv_iconst C (pc' := 92) rfl (D 52 (91, .iconst 2, 1) rfl) (v := nI 2) (by decide) ?_
                refine cv_iload C (pc' := 94) rfl (D 53 (92, .iload 6, 2) rfl) (j := 1) rfl ?_
                refine cv_iconst C (pc' := 95) rfl (D 54 (94, .iconst 2, 1) rfl) (v := nI 2) (by decide) ?_
                refine cv_idivN C (pc' := 96) rfl (by omega) (by decide) (by decide) (D 55 (95, .idiv, 1) rfl) ?_
                refine cv_iconst C (pc' := 97) rfl (D 56 (96, .iconst 1, 1) rfl) (v := nI 1) (by decide) ?_
                refine cv_icmp_neN C (pc' := 100) rfl (by omega) (by omega) (tgt := 106) (D 57 (97, .if_icmp .ne 9, 3) rfl) (by decide) (fun b97 => ?_) (fun b97 => ?_)
                · skip
                  refine cv_iload C (pc' := 108) rfl (D 60 (106, .iload 4, 2) rfl) (j := 7) rfl ?_
                  refine cv_iast C (pc' := 109) rfl (k0 := 5) (j := 2) (by decide) rfl rfl (by omega) (by decide) (D 61 (108, .iastore, 1) rfl) ?_
                  refine cv_iload C (pc' := 111) rfl (D 62 (109, .iload 5, 2) rfl) (j := 2) rfl ?_
                  refine cv_bipush C (pc' := 113) rfl (D 63 (111, .bipush (-9), 2) rfl) (v := -9) (by decide) ?_
                  refine cv_icmp_eqO C (pc' := 116) rfl (fun z h => by have := cv_p4_le _ _ (by omega) h; omega) (tgt := 123) (D 64 (113, .if_icmp .eq 10, 3) rfl) (by decide) (fun b113 => ?_) (fun z113 b113 => ?_)
                  · skip
                    refine cv_aload_n C (pc' := 124) rfl (D 68 (123, .aload_n 0, 1) rfl) rfl (j := 3) rfl ?_
                    refine cv_iload_n C (pc' := 125) rfl (D 69 (124, .iload_n 1, 1) rfl) rfl (j := 4) rfl ?_
                    refine cv_iload_n C (pc' := 126) rfl (D 70 (125, .iload_n 2, 1) rfl) rfl (j := 5) rfl ?_
                    have hLs := cv_LM_fg hL hGτ 255 (L 6 2)
                    refine cv_callV C (pc' := 129) rfl (k0 := 0) (ci := 7) (As := [.int (nI j), .int (nI w)]) (rest := []) (idx := 182) (np := 2) (kX7_canBy (cv_lu (cv_lu L 6 1 255) 6 2 (L 6 2)) (-9) j w (cv_u (cv_u τ 5 1 (nI 255)) 5 2 (nI (L 6 2))) hLs (cv_LB_12 hB (by omega) (by omega)) (by rw [cv_u_c (by decide), cv_u_c (by decide), hGτ.2.1 13 (by decide) (by decide)]; exact hM) (by omega) (by omega)) (by decide) rfl rfl rfl (by decide +kernel) rfl wmX7_182 wi_yX7_canBy ws_yX7_canBy wn_X7 wc_yX7_canBy (by decide) (by decide) (D 71 (126, .invokevirtual 182, 3) rfl) (Nat.le_of_ble_eq_true rfl) rfl (fun w126 u126 h126 => ?_)
                    obtain ⟨e126, f126⟩ := h126
                    rw [e126, cv_can_give, (cv_lu_12 L 255 (L 6 2)).1, (cv_lu_12 L 255 (L 6 2)).2]
                    have hc9 : cv_can L (-9) j w 255 (L 6 2) = cv_pc4 L j w k := by unfold cv_pc4; rw [if_pos b76, if_neg b97]
                    rw [hc9]
                    have hGu126 : cv_fg μ u126 := cv_fg_w (cv_fg_12 hGτ _ _) f126
                    show cv_At X _ _ u126 129 _ [.int (cv_b (cv_pc4 L j w k))]
                    refine cv_if_eqB C (pc' := 132) rfl (tgt := 136) (D 72 (129, .ifCond .eq 7, 3) rfl) (by decide) (fun b129 => ?_) (fun b129 => ?_)
                    · skip
                      refine cv_iincN C (pc' := 139) rfl (D 75 (136, .iinc 6 1, 3) rfl) (j := 1) rfl (by decide) (lv' := [(6, .int (nI (k + 1))), (7, .int (nI ((k % 2) + (k / 2)))), (5, .int (cv_o (cv_p4 (cv_pc4 L j w) k))), (0, .ref 0), (1, .int (nI j)), (2, .int (nI w)), (3, .int (nI (L 6 1))), (4, .int (nI (L 6 2)))]) rfl ?_
                      refine cv_goto C (tgt := 49) (D 76 (139, .goto (-90), 3) rfl) (by decide) ?_
                      have hw9 : cv_o (cv_p4 (cv_pc4 L j w) k) = cv_o (cv_p4 (cv_pc4 L j w) (k + 1)) := by simp only [cv_p4]; rw [b113]; unfold cv_pk; dsimp only; rw [if_neg (by simp [b129])]; try rfl
                      rw [hw9]
                      refine cv_pick [0, 2, 3, 4, 5, 6, 7] (lv' := [(6, .int (nI (k + 1))), (5, .int (cv_o (cv_p4 (cv_pc4 L j w) (k + 1)))), (0, .ref 0), (1, .int (nI j)), (2, .int (nI w)), (3, .int (nI (L 6 1))), (4, .int (nI (L 6 2)))]) rfl ?_
                      exact ih49 (k + 1) u126 (by omega) hGu126
                    · skip
                      refine cv_iload C (pc' := 134) rfl (D 73 (132, .iload 7, 2) rfl) (j := 0) rfl ?_
                      refine cv_istore C (pc' := 136) rfl (D 74 (134, .istore 5, 2) rfl) (by decide) (lv' := [(5, .int (nI ((k % 2) + (k / 2)))), (7, .int (nI ((k % 2) + (k / 2)))), (6, .int (nI k)), (0, .ref 0), (1, .int (nI j)), (2, .int (nI w)), (3, .int (nI (L 6 1))), (4, .int (nI (L 6 2)))]) rfl ?_
                      refine cv_iincN C (pc' := 139) rfl (D 75 (136, .iinc 6 1, 3) rfl) (j := 2) rfl (by decide) (lv' := [(6, .int (nI (k + 1))), (5, .int (nI ((k % 2) + (k / 2)))), (7, .int (nI ((k % 2) + (k / 2)))), (0, .ref 0), (1, .int (nI j)), (2, .int (nI w)), (3, .int (nI (L 6 1))), (4, .int (nI (L 6 2)))]) rfl ?_
                      refine cv_goto C (tgt := 49) (D 76 (139, .goto (-90), 3) rfl) (by decide) ?_
                      have hw9 : nI ((k % 2) + (k / 2)) = cv_o (cv_p4 (cv_pc4 L j w) (k + 1)) := by simp only [cv_p4]; rw [b113]; unfold cv_pk; dsimp only; rw [if_pos b129]; rfl
                      rw [hw9]
                      refine cv_pick [0, 1, 3, 4, 5, 6, 7] (lv' := [(6, .int (nI (k + 1))), (5, .int (cv_o (cv_p4 (cv_pc4 L j w) (k + 1)))), (0, .ref 0), (1, .int (nI j)), (2, .int (nI w)), (3, .int (nI (L 6 1))), (4, .int (nI (L 6 2)))]) rfl ?_
                      exact ih49 (k + 1) u126 (by omega) hGu126
                  · skip
                    have ez113 : cv_o (cv_p4 (cv_pc4 L j w) k) = nI z113 := by rw [b113]; rfl
                    rw [ez113]
                    have hz113 := cv_p4_le _ _ (by omega) b113
                    refine cv_iload C (pc' := 118) rfl (D 65 (116, .iload 7, 2) rfl) (j := 0) rfl ?_
                    refine cv_iload C (pc' := 120) rfl (D 66 (118, .iload 5, 2) rfl) (j := 2) rfl ?_
                    refine cv_icmp_geN C (pc' := 123) rfl (by omega) (by omega) (tgt := 136) (D 67 (120, .if_icmp .ge 16, 3) rfl) (by decide) (fun b120 => ?_) (fun b120 => ?_)
                    · skip
                      refine cv_iincN C (pc' := 139) rfl (D 75 (136, .iinc 6 1, 3) rfl) (j := 1) rfl (by decide) (lv' := [(6, .int (nI (k + 1))), (7, .int (nI ((k % 2) + (k / 2)))), (5, .int (nI z113)), (0, .ref 0), (1, .int (nI j)), (2, .int (nI w)), (3, .int (nI (L 6 1))), (4, .int (nI (L 6 2)))]) rfl ?_
                      refine cv_goto C (tgt := 49) (D 76 (139, .goto (-90), 3) rfl) (by decide) ?_
                      have hw9 : nI z113 = cv_o (cv_p4 (cv_pc4 L j w) (k + 1)) := by simp only [cv_p4]; rw [b113]; unfold cv_pk; dsimp only; rw [if_neg (by omega)]; rfl
                      rw [hw9]
                      refine cv_pick [0, 2, 3, 4, 5, 6, 7] (lv' := [(6, .int (nI (k + 1))), (5, .int (cv_o (cv_p4 (cv_pc4 L j w) (k + 1)))), (0, .ref 0), (1, .int (nI j)), (2, .int (nI w)), (3, .int (nI (L 6 1))), (4, .int (nI (L 6 2)))]) rfl ?_
                      exact ih49 (k + 1) (cv_u (cv_u τ 5 1 (nI 255)) 5 2 (nI (L 6 2))) (by omega) (cv_fg_12 hGτ _ _)
                    · skip
                      refine cv_aload_n C (pc' := 124) rfl (D 68 (123, .aload_n 0, 1) rfl) rfl (j := 3) rfl ?_
                      refine cv_iload_n C (pc' := 125) rfl (D 69 (124, .iload_n 1, 1) rfl) rfl (j := 4) rfl ?_
                      refine cv_iload_n C (pc' := 126) rfl (D 70 (125, .iload_n 2, 1) rfl) rfl (j := 5) rfl ?_
                      have hLs := cv_LM_fg hL hGτ 255 (L 6 2)
                      refine cv_callV C (pc' := 129) rfl (k0 := 0) (ci := 7) (As := [.int (nI j), .int (nI w)]) (rest := []) (idx := 182) (np := 2) (kX7_canBy (cv_lu (cv_lu L 6 1 255) 6 2 (L 6 2)) (-9) j w (cv_u (cv_u τ 5 1 (nI 255)) 5 2 (nI (L 6 2))) hLs (cv_LB_12 hB (by omega) (by omega)) (by rw [cv_u_c (by decide), cv_u_c (by decide), hGτ.2.1 13 (by decide) (by decide)]; exact hM) (by omega) (by omega)) (by decide) rfl rfl rfl (by decide +kernel) rfl wmX7_182 wi_yX7_canBy ws_yX7_canBy wn_X7 wc_yX7_canBy (by decide) (by decide) (D 71 (126, .invokevirtual 182, 3) rfl) (Nat.le_of_ble_eq_true rfl) rfl (fun w126 u126 h126 => ?_)
                      obtain ⟨e126, f126⟩ := h126
                      rw [e126, cv_can_give, (cv_lu_12 L 255 (L 6 2)).1, (cv_lu_12 L 255 (L 6 2)).2]
                      have hc9 : cv_can L (-9) j w 255 (L 6 2) = cv_pc4 L j w k := by unfold cv_pc4; rw [if_pos b76, if_neg b97]
                      rw [hc9]
                      have hGu126 : cv_fg μ u126 := cv_fg_w (cv_fg_12 hGτ _ _) f126
                      show cv_At X _ _ u126 129 _ [.int (cv_b (cv_pc4 L j w k))]
                      refine cv_if_eqB C (pc' := 132) rfl (tgt := 136) (D 72 (129, .ifCond .eq 7, 3) rfl) (by decide) (fun b129 => ?_) (fun b129 => ?_)
                      · skip
                        refine cv_iincN C (pc' := 139) rfl (D 75 (136, .iinc 6 1, 3) rfl) (j := 1) rfl (by decide) (lv' := [(6, .int (nI (k + 1))), (7, .int (nI ((k % 2) + (k / 2)))), (5, .int (nI z113)), (0, .ref 0), (1, .int (nI j)), (2, .int (nI w)), (3, .int (nI (L 6 1))), (4, .int (nI (L 6 2)))]) rfl ?_
                        refine cv_goto C (tgt := 49) (D 76 (139, .goto (-90), 3) rfl) (by decide) ?_
                        have hw9 : nI z113 = cv_o (cv_p4 (cv_pc4 L j w) (k + 1)) := by simp only [cv_p4]; rw [b113]; unfold cv_pk; dsimp only; rw [if_neg (by simp [b129])]; rfl
                        rw [hw9]
                        refine cv_pick [0, 2, 3, 4, 5, 6, 7] (lv' := [(6, .int (nI (k + 1))), (5, .int (cv_o (cv_p4 (cv_pc4 L j w) (k + 1)))), (0, .ref 0), (1, .int (nI j)), (2, .int (nI w)), (3, .int (nI (L 6 1))), (4, .int (nI (L 6 2)))]) rfl ?_
                        exact ih49 (k + 1) u126 (by omega) hGu126
                      · skip
                        refine cv_iload C (pc' := 134) rfl (D 73 (132, .iload 7, 2) rfl) (j := 0) rfl ?_
                        refine cv_istore C (pc' := 136) rfl (D 74 (134, .istore 5, 2) rfl) (by decide) (lv' := [(5, .int (nI ((k % 2) + (k / 2)))), (7, .int (nI ((k % 2) + (k / 2)))), (6, .int (nI k)), (0, .ref 0), (1, .int (nI j)), (2, .int (nI w)), (3, .int (nI (L 6 1))), (4, .int (nI (L 6 2)))]) rfl ?_
                        refine cv_iincN C (pc' := 139) rfl (D 75 (136, .iinc 6 1, 3) rfl) (j := 2) rfl (by decide) (lv' := [(6, .int (nI (k + 1))), (5, .int (nI ((k % 2) + (k / 2)))), (7, .int (nI ((k % 2) + (k / 2)))), (0, .ref 0), (1, .int (nI j)), (2, .int (nI w)), (3, .int (nI (L 6 1))), (4, .int (nI (L 6 2)))]) rfl ?_
                        refine cv_goto C (tgt := 49) (D 76 (139, .goto (-90), 3) rfl) (by decide) ?_
                        have hw9 : nI ((k % 2) + (k / 2)) = cv_o (cv_p4 (cv_pc4 L j w) (k + 1)) := by simp only [cv_p4]; rw [b113]; unfold cv_pk; dsimp only; rw [if_pos ⟨by omega, b129⟩]; rfl
                        rw [hw9]
                        refine cv_pick [0, 1, 3, 4, 5, 6, 7] (lv' := [(6, .int (nI (k + 1))), (5, .int (cv_o (cv_p4 (cv_pc4 L j w) (k + 1)))), (0, .ref 0), (1, .int (nI j)), (2, .int (nI w)), (3, .int (nI (L 6 1))), (4, .int (nI (L 6 2)))]) rfl ?_
                        exact ih49 (k + 1) u126 (by omega) hGu126
                · skip
                  refine cv_sipush C (pc' := 103) rfl (D 58 (100, .sipush 255, 3) rfl) (v := nI 255) (by decide) ?_
                  refine cv_goto C (tgt := 108) (D 59 (103, .goto 5, 3) rfl) (by decide) ?_
                  refine cv_iast C (pc' := 109) rfl (k0 := 5) (j := 2) (by decide) rfl rfl (by omega) (by decide) (D 61 (108, .iastore, 1) rfl) ?_
                  refine cv_iload C (pc' := 111) rfl (D 62 (109, .iload 5, 2) rfl) (j := 2) rfl ?_
                  refine cv_bipush C (pc' := 113) rfl (D 63 (111, .bipush (-9), 2) rfl) (v := -9) (by decide) ?_
                  refine cv_icmp_eqO C (pc' := 116) rfl (fun z h => by have := cv_p4_le _ _ (by omega) h; omega) (tgt := 123) (D 64 (113, .if_icmp .eq 10, 3) rfl) (by decide) (fun b113 => ?_) (fun z113 b113 => ?_)
                  · skip
                    refine cv_aload_n C (pc' := 124) rfl (D 68 (123, .aload_n 0, 1) rfl) rfl (j := 3) rfl ?_
                    refine cv_iload_n C (pc' := 125) rfl (D 69 (124, .iload_n 1, 1) rfl) rfl (j := 4) rfl ?_
                    refine cv_iload_n C (pc' := 126) rfl (D 70 (125, .iload_n 2, 1) rfl) rfl (j := 5) rfl ?_
                    have hLs := cv_LM_fg hL hGτ 255 255
                    refine cv_callV C (pc' := 129) rfl (k0 := 0) (ci := 7) (As := [.int (nI j), .int (nI w)]) (rest := []) (idx := 182) (np := 2) (kX7_canBy (cv_lu (cv_lu L 6 1 255) 6 2 255) (-9) j w (cv_u (cv_u τ 5 1 (nI 255)) 5 2 (nI 255)) hLs (cv_LB_12 hB (by omega) (by omega)) (by rw [cv_u_c (by decide), cv_u_c (by decide), hGτ.2.1 13 (by decide) (by decide)]; exact hM) (by omega) (by omega)) (by decide) rfl rfl rfl (by decide +kernel) rfl wmX7_182 wi_yX7_canBy ws_yX7_canBy wn_X7 wc_yX7_canBy (by decide) (by decide) (D 71 (126, .invokevirtual 182, 3) rfl) (Nat.le_of_ble_eq_true rfl) rfl (fun w126 u126 h126 => ?_)
                    obtain ⟨e126, f126⟩ := h126
                    rw [e126, cv_can_give, (cv_lu_12 L 255 255).1, (cv_lu_12 L 255 255).2]
                    have hc9 : cv_can L (-9) j w 255 255 = cv_pc4 L j w k := by unfold cv_pc4; rw [if_pos b76, if_pos b97]
                    rw [hc9]
                    have hGu126 : cv_fg μ u126 := cv_fg_w (cv_fg_12 hGτ _ _) f126
                    show cv_At X _ _ u126 129 _ [.int (cv_b (cv_pc4 L j w k))]
                    refine cv_if_eqB C (pc' := 132) rfl (tgt := 136) (D 72 (129, .ifCond .eq 7, 3) rfl) (by decide) (fun b129 => ?_) (fun b129 => ?_)
                    · skip
                      refine cv_iincN C (pc' := 139) rfl (D 75 (136, .iinc 6 1, 3) rfl) (j := 1) rfl (by decide) (lv' := [(6, .int (nI (k + 1))), (7, .int (nI ((k % 2) + (k / 2)))), (5, .int (cv_o (cv_p4 (cv_pc4 L j w) k))), (0, .ref 0), (1, .int (nI j)), (2, .int (nI w)), (3, .int (nI (L 6 1))), (4, .int (nI (L 6 2)))]) rfl ?_
                      refine cv_goto C (tgt := 49) (D 76 (139, .goto (-90), 3) rfl) (by decide) ?_
                      have hw9 : cv_o (cv_p4 (cv_pc4 L j w) k) = cv_o (cv_p4 (cv_pc4 L j w) (k + 1)) := by simp only [cv_p4]; rw [b113]; unfold cv_pk; dsimp only; rw [if_neg (by simp [b129])]; try rfl
                      rw [hw9]
                      refine cv_pick [0, 2, 3, 4, 5, 6, 7] (lv' := [(6, .int (nI (k + 1))), (5, .int (cv_o (cv_p4 (cv_pc4 L j w) (k + 1)))), (0, .ref 0), (1, .int (nI j)), (2, .int (nI w)), (3, .int (nI (L 6 1))), (4, .int (nI (L 6 2)))]) rfl ?_
                      exact ih49 (k + 1) u126 (by omega) hGu126
                    · skip
                      refine cv_iload C (pc' := 134) rfl (D 73 (132, .iload 7, 2) rfl) (j := 0) rfl ?_
                      refine cv_istore C (pc' := 136) rfl (D 74 (134, .istore 5, 2) rfl) (by decide) (lv' := [(5, .int (nI ((k % 2) + (k / 2)))), (7, .int (nI ((k % 2) + (k / 2)))), (6, .int (nI k)), (0, .ref 0), (1, .int (nI j)), (2, .int (nI w)), (3, .int (nI (L 6 1))), (4, .int (nI (L 6 2)))]) rfl ?_
                      refine cv_iincN C (pc' := 139) rfl (D 75 (136, .iinc 6 1, 3) rfl) (j := 2) rfl (by decide) (lv' := [(6, .int (nI (k + 1))), (5, .int (nI ((k % 2) + (k / 2)))), (7, .int (nI ((k % 2) + (k / 2)))), (0, .ref 0), (1, .int (nI j)), (2, .int (nI w)), (3, .int (nI (L 6 1))), (4, .int (nI (L 6 2)))]) rfl ?_
                      refine cv_goto C (tgt := 49) (D 76 (139, .goto (-90), 3) rfl) (by decide) ?_
                      have hw9 : nI ((k % 2) + (k / 2)) = cv_o (cv_p4 (cv_pc4 L j w) (k + 1)) := by simp only [cv_p4]; rw [b113]; unfold cv_pk; dsimp only; rw [if_pos b129]; rfl
                      rw [hw9]
                      refine cv_pick [0, 1, 3, 4, 5, 6, 7] (lv' := [(6, .int (nI (k + 1))), (5, .int (cv_o (cv_p4 (cv_pc4 L j w) (k + 1)))), (0, .ref 0), (1, .int (nI j)), (2, .int (nI w)), (3, .int (nI (L 6 1))), (4, .int (nI (L 6 2)))]) rfl ?_
                      exact ih49 (k + 1) u126 (by omega) hGu126
                  · skip
                    have ez113 : cv_o (cv_p4 (cv_pc4 L j w) k) = nI z113 := by rw [b113]; rfl
                    rw [ez113]
                    have hz113 := cv_p4_le _ _ (by omega) b113
                    refine cv_iload C (pc' := 118) rfl (D 65 (116, .iload 7, 2) rfl) (j := 0) rfl ?_
                    refine cv_iload C (pc' := 120) rfl (D 66 (118, .iload 5, 2) rfl) (j := 2) rfl ?_
                    refine cv_icmp_geN C (pc' := 123) rfl (by omega) (by omega) (tgt := 136) (D 67 (120, .if_icmp .ge 16, 3) rfl) (by decide) (fun b120 => ?_) (fun b120 => ?_)
                    · skip
                      refine cv_iincN C (pc' := 139) rfl (D 75 (136, .iinc 6 1, 3) rfl) (j := 1) rfl (by decide) (lv' := [(6, .int (nI (k + 1))), (7, .int (nI ((k % 2) + (k / 2)))), (5, .int (nI z113)), (0, .ref 0), (1, .int (nI j)), (2, .int (nI w)), (3, .int (nI (L 6 1))), (4, .int (nI (L 6 2)))]) rfl ?_
                      refine cv_goto C (tgt := 49) (D 76 (139, .goto (-90), 3) rfl) (by decide) ?_
                      have hw9 : nI z113 = cv_o (cv_p4 (cv_pc4 L j w) (k + 1)) := by simp only [cv_p4]; rw [b113]; unfold cv_pk; dsimp only; rw [if_neg (by omega)]; rfl
                      rw [hw9]
                      refine cv_pick [0, 2, 3, 4, 5, 6, 7] (lv' := [(6, .int (nI (k + 1))), (5, .int (cv_o (cv_p4 (cv_pc4 L j w) (k + 1)))), (0, .ref 0), (1, .int (nI j)), (2, .int (nI w)), (3, .int (nI (L 6 1))), (4, .int (nI (L 6 2)))]) rfl ?_
                      exact ih49 (k + 1) (cv_u (cv_u τ 5 1 (nI 255)) 5 2 (nI 255)) (by omega) (cv_fg_12 hGτ _ _)
                    · skip
                      refine cv_aload_n C (pc' := 124) rfl (D 68 (123, .aload_n 0, 1) rfl) rfl (j := 3) rfl ?_
                      refine cv_iload_n C (pc' := 125) rfl (D 69 (124, .iload_n 1, 1) rfl) rfl (j := 4) rfl ?_
                      refine cv_iload_n C (pc' := 126) rfl (D 70 (125, .iload_n 2, 1) rfl) rfl (j := 5) rfl ?_
                      have hLs := cv_LM_fg hL hGτ 255 255
                      refine cv_callV C (pc' := 129) rfl (k0 := 0) (ci := 7) (As := [.int (nI j), .int (nI w)]) (rest := []) (idx := 182) (np := 2) (kX7_canBy (cv_lu (cv_lu L 6 1 255) 6 2 255) (-9) j w (cv_u (cv_u τ 5 1 (nI 255)) 5 2 (nI 255)) hLs (cv_LB_12 hB (by omega) (by omega)) (by rw [cv_u_c (by decide), cv_u_c (by decide), hGτ.2.1 13 (by decide) (by decide)]; exact hM) (by omega) (by omega)) (by decide) rfl rfl rfl (by decide +kernel) rfl wmX7_182 wi_yX7_canBy ws_yX7_canBy wn_X7 wc_yX7_canBy (by decide) (by decide) (D 71 (126, .invokevirtual 182, 3) rfl) (Nat.le_of_ble_eq_true rfl) rfl (fun w126 u126 h126 => ?_)
                      obtain ⟨e126, f126⟩ := h126
                      rw [e126, cv_can_give, (cv_lu_12 L 255 255).1, (cv_lu_12 L 255 255).2]
                      have hc9 : cv_can L (-9) j w 255 255 = cv_pc4 L j w k := by unfold cv_pc4; rw [if_pos b76, if_pos b97]
                      rw [hc9]
                      have hGu126 : cv_fg μ u126 := cv_fg_w (cv_fg_12 hGτ _ _) f126
                      show cv_At X _ _ u126 129 _ [.int (cv_b (cv_pc4 L j w k))]
                      refine cv_if_eqB C (pc' := 132) rfl (tgt := 136) (D 72 (129, .ifCond .eq 7, 3) rfl) (by decide) (fun b129 => ?_) (fun b129 => ?_)
                      · skip
                        refine cv_iincN C (pc' := 139) rfl (D 75 (136, .iinc 6 1, 3) rfl) (j := 1) rfl (by decide) (lv' := [(6, .int (nI (k + 1))), (7, .int (nI ((k % 2) + (k / 2)))), (5, .int (nI z113)), (0, .ref 0), (1, .int (nI j)), (2, .int (nI w)), (3, .int (nI (L 6 1))), (4, .int (nI (L 6 2)))]) rfl ?_
                        refine cv_goto C (tgt := 49) (D 76 (139, .goto (-90), 3) rfl) (by decide) ?_
                        have hw9 : nI z113 = cv_o (cv_p4 (cv_pc4 L j w) (k + 1)) := by simp only [cv_p4]; rw [b113]; unfold cv_pk; dsimp only; rw [if_neg (by simp [b129])]; rfl
                        rw [hw9]
                        refine cv_pick [0, 2, 3, 4, 5, 6, 7] (lv' := [(6, .int (nI (k + 1))), (5, .int (cv_o (cv_p4 (cv_pc4 L j w) (k + 1)))), (0, .ref 0), (1, .int (nI j)), (2, .int (nI w)), (3, .int (nI (L 6 1))), (4, .int (nI (L 6 2)))]) rfl ?_
                        exact ih49 (k + 1) u126 (by omega) hGu126
                      · skip
                        refine cv_iload C (pc' := 134) rfl (D 73 (132, .iload 7, 2) rfl) (j := 0) rfl ?_
                        refine cv_istore C (pc' := 136) rfl (D 74 (134, .istore 5, 2) rfl) (by decide) (lv' := [(5, .int (nI ((k % 2) + (k / 2)))), (7, .int (nI ((k % 2) + (k / 2)))), (6, .int (nI k)), (0, .ref 0), (1, .int (nI j)), (2, .int (nI w)), (3, .int (nI (L 6 1))), (4, .int (nI (L 6 2)))]) rfl ?_
                        refine cv_iincN C (pc' := 139) rfl (D 75 (136, .iinc 6 1, 3) rfl) (j := 2) rfl (by decide) (lv' := [(6, .int (nI (k + 1))), (5, .int (nI ((k % 2) + (k / 2)))), (7, .int (nI ((k % 2) + (k / 2)))), (0, .ref 0), (1, .int (nI j)), (2, .int (nI w)), (3, .int (nI (L 6 1))), (4, .int (nI (L 6 2)))]) rfl ?_
                        refine cv_goto C (tgt := 49) (D 76 (139, .goto (-90), 3) rfl) (by decide) ?_
                        have hw9 : nI ((k % 2) + (k / 2)) = cv_o (cv_p4 (cv_pc4 L j w) (k + 1)) := by simp only [cv_p4]; rw [b113]; unfold cv_pk; dsimp only; rw [if_pos ⟨by omega, b129⟩]; rfl
                        rw [hw9]
                        refine cv_pick [0, 1, 3, 4, 5, 6, 7] (lv' := [(6, .int (nI (k + 1))), (5, .int (cv_o (cv_p4 (cv_pc4 L j w) (k + 1)))), (0, .ref 0), (1, .int (nI j)), (2, .int (nI w)), (3, .int (nI (L 6 1))), (4, .int (nI (L 6 2)))]) rfl ?_
                        exact ih49 (k + 1) u126 (by omega) hGu126
        exact LP49 4 0 μ (by decide) (cv_fg_r μ)
      · skip
        refine cv_bipush C (pc' := 26) rfl (D 11 (24, .bipush (-3), 2) rfl) (v := -3) (by decide) ?_
        exact cv_iret C Rt rfl (D 12 (26, .ireturn, 1) rfl) ⟨congrArg (fun z => some (Value.int z)) (by unfold cv_a_peace cv_day2; rw [if_pos ⟨b4, b11⟩, if_neg (by omega)]), hR⟩
    · skip
      refine cv_bipush C (pc' := 16) rfl (D 6 (14, .bipush (-2), 2) rfl) (v := -2) (by decide) ?_
      exact cv_iret C Rt rfl (D 7 (16, .ireturn, 1) rfl) ⟨congrArg (fun z => some (Value.int z)) (by unfold cv_a_peace cv_day2; rw [if_neg (by simp [b11])]), hR⟩

theorem cv_RM_26 {tr : Int32} {ft : Nat} {sl : Nat → Option (Nat × Nat)} {sc : Nat → Nat → Int32} {L : cv_L} {rc m : Nat} {rd rd2 : Nat → Nat} {rn rn2 : Nat → Option Nat} {μ u : cv_St} (h : ∀ k, k ≠ 0 → k < 15 → u k = μ k) (h0 : ∀ i, i ≠ 26 → u 0 i = μ 0 i) (hD : cv_DM m rd2 rn2 u) (hR : cv_RM tr ft sl sc L rc rd rn μ) : cv_RM tr ft sl sc L m rd2 rn2 u := by
  obtain ⟨h1, h2, h3, h4, h5, h6⟩ := hR
  refine ⟨by rw [h0 1 (by decide)]; exact h1, by rw [h0 0 (by decide)]; exact h2, fun k hk => by rw [h 1 (by decide) (by decide), h 2 (by decide) (by decide), h 3 (by decide) (by decide)]; exact h3 k hk, ⟨by rw [h0 5 (by decide)]; exact h4.1, fun d hd => by rw [h 4 (by decide) (by decide)]; exact h4.2.1 d hd, fun v hv => by rw [h 5 (by decide) (by decide)]; exact h4.2.2.1 v hv, fun p hp i hi => by rw [h (6 + i) (by omega) (by omega)]; exact h4.2.2.2 p hp i hi⟩, by rw [h0 13 (by decide)]; exact h5, hD⟩
theorem cv_RM_reading {tr : Int32} {ft : Nat} {sl : Nat → Option (Nat × Nat)} {sc : Nat → Nat → Int32} {L : cv_L} {rc : Nat} {rd : Nat → Nat} {rn : Nat → Option Nat} {μ : cv_St} (hR : cv_RM tr ft sl sc L rc rd rn μ) (j : Nat) (o : Option Nat) (y : Int32) (hy : y = cv_o o) (z : Int32) (hz : z = nI (rc + 1)) : cv_RM tr ft sl sc L (rc + 1) (fun k => if k = rc then j else rd k) (fun k => if k = rc then o else rn k) (cv_u (cv_u (cv_u μ 15 rc (nI j)) 16 rc y) 0 26 z) := by
  have h6 := hR.2.2.2.2.2
  subst hy; subst hz
  refine cv_RM_26 (fun k a b => by rw [cv_u_c a, cv_u_c (by omega), cv_u_c (by omega)]) (fun i hi => by rw [cv_u_i hi, cv_u_c (by decide), cv_u_c (by decide)]) ⟨cv_u_s, fun k hk => ?_⟩ hR
  rw [cv_u_c (by decide), cv_u_c (by decide), cv_u_c (show (16 : Nat) ≠ 0 by decide)]
  by_cases q : k = rc
  · subst q
    dsimp only
    rw [cv_u_s, cv_u_s, if_pos rfl, if_pos rfl]
    exact ⟨rfl, rfl⟩
  · dsimp only
    rw [cv_u_i q, cv_u_i q, if_neg q, if_neg q, cv_u_c (by decide)]
    exact h6.2 k (by omega)
theorem cv_RM_back {tr : Int32} {ft : Nat} {sl : Nat → Option (Nat × Nat)} {sc : Nat → Nat → Int32} {L : cv_L} {rc : Nat} {rd : Nat → Nat} {rn : Nat → Option Nat} {μ : cv_St} (hR : cv_RM tr ft sl sc L rc rd rn μ) (m : Nat) (hm : m ≤ rc) : cv_RM tr ft sl sc L m rd rn (cv_u μ 0 26 (nI m)) :=
  cv_RM_26 (fun k a _ => cv_u_c a) (fun i hi => cv_u_i hi) ⟨cv_u_s, fun k hk => by rw [cv_u_c (by decide), cv_u_c (by decide)]; exact hR.2.2.2.2.2.2 k (by omega)⟩ hR
set_option maxHeartbeats 4000000 in
set_option maxRecDepth 100000 in
theorem pX7_reading (tr : Int32) (ft : Nat) (sl : Nat → Option (Nat × Nat)) (sc : Nat → Nat → Int32) (L : cv_L) (rc : Nat) (rd : Nat → Nat) (rn : Nat → Option Nat) (x y : Int32) (μ : cv_St) (hR : cv_RM tr ft sl sc L rc rd rn μ) (hB : cv_LB L) (hDB : cv_DB rc rd rn) : cv_Ct yX7_reading cX7_reading 3 (some .int) 2 0 0 17 cv_shM [.ref 0, .int x, .int y] μ (fun v u => v = some (.int (cv_a_reading L rc x y)) ∧ (if cv_ok_reading L rc x y then cv_RM tr ft sl sc L (rc + 1) (fun k => if k = rc then cv_nt x else rd k) (fun k => if k = rc then cv_on y else rn k) u else cv_RM tr ft sl sc L rc rd rn u)) := by
  refine cv_enter (own := RX7) (by decide) rfl (Nat.le_of_ble_eq_true rfl) ?_
  intro X a C Rt hRm
  have D := @cv_dec _ _ dkX7_reading
  obtain ⟨hTr, hFt, hSh, hL, hM, hD⟩ := id hR
  have hn6 := hB.1
  have hrc := hDB.1
  show cv_At X _ _ μ 0 [(0, .ref 0), (1, .int x), (2, .int y)] []
  refine cv_iload_n C (pc' := 1) rfl (D 0 (0, .iload_n 1, 1) rfl) rfl (j := 1) rfl ?_
  refine cv_callS C (pc' := 4) rfl (As := [.int x]) (rest := []) (idx := 124) (np := 1) (kX7_isDay x μ) (by decide +kernel) rfl wmX7_124 wt_yX7_isDay wn_X7 wc_yX7_isDay (by decide) (by decide) (D 1 (1, .invokestatic 124, 3) rfl) (Nat.le_of_ble_eq_true rfl) rfl (fun w9 u9 h9 => ?_)
  rw [h9.1, h9.2]
  show cv_At X _ _ μ 4 _ [.int (cv_b (cv_in x 8))]
  refine cv_if_eqB C (pc' := 7) rfl (tgt := 20) (D 2 (4, .ifCond .eq 16, 3) rfl) (by decide) (fun b4 => ?_) (fun b4 => ?_)
  · skip
    refine cv_bipush C (pc' := 22) rfl (D 9 (20, .bipush (-2), 2) rfl) (v := -2) (by decide) ?_
    exact cv_iret C Rt rfl (D 10 (22, .ireturn, 1) rfl) ⟨congrArg (fun z => some (Value.int z)) (by unfold cv_a_reading; rw [if_neg (by simp [b4])]), by rw [if_neg (fun h => by unfold cv_ok_reading at h; rw [b4] at h; cases h.1)]; exact hR⟩
  · skip
    refine cv_iload_n C (pc' := 8) rfl (D 3 (7, .iload_n 2, 1) rfl) rfl (j := 2) rfl ?_
    refine cv_bipush C (pc' := 10) rfl (D 4 (8, .bipush (-9), 2) rfl) (v := -9) (by decide) ?_
    refine cv_icmp_eq C (pc' := 13) rfl (tgt := 23) (D 5 (10, .if_icmp .eq 13, 3) rfl) (by decide) (fun b10 => ?_) (fun b10 => ?_)
    · skip
      obtain ⟨j, hj, rfl⟩ := cv_in_of b4 (by omega)
      refine cv_aload_n C (pc' := 24) rfl (D 11 (23, .aload_n 0, 1) rfl) rfl (j := 0) rfl ?_
      refine cv_get C (pc' := 27) rfl (k0 := 0) (i := 5) (ci := 7) (by decide) rfl rfl (by decide) (o := none) rfl iw_X7 wfX7_71 (D 12 (24, .getfield 71, 3) rfl) (v := .int (nI (L 7 0))) (congrArg Value.int hL.1) ?_
      refine cv_if_neN C (pc' := 30) rfl (by omega) (tgt := 33) (D 13 (27, .ifCond .ne 6, 3) rfl) (by decide) (fun b27 => ?_) (fun b27 => ?_)
      · skip
        refine cv_aload_n C (pc' := 34) rfl (D 16 (33, .aload_n 0, 1) rfl) rfl (j := 0) rfl ?_
        refine cv_get C (pc' := 37) rfl (k0 := 0) (i := 26) (ci := 7) (by decide) rfl rfl (by decide) (o := none) rfl iw_X7 wfX7_105 (D 17 (34, .getfield 105, 3) rfl) (v := .int (nI rc)) (congrArg Value.int hD.1) ?_
        refine cv_bipush C (pc' := 39) rfl (D 18 (37, .bipush 8, 2) rfl) (v := nI 8) (by decide) ?_
        refine cv_icmp_neN C (pc' := 42) rfl (by omega) (by omega) (tgt := 45) (D 19 (39, .if_icmp .ne 6, 3) rfl) (by decide) (fun b39 => ?_) (fun b39 => ?_)
        · skip
          refine cv_aload_n C (pc' := 46) rfl (D 22 (45, .aload_n 0, 1) rfl) rfl (j := 0) rfl ?_
          refine cv_get C (pc' := 49) rfl (k0 := 0) (i := 27) (ci := 7) (by decide) rfl rfl (by decide) (o := some 15) rfl iw_X7 wfX7_56 (D 23 (46, .getfield 56, 3) rfl) rfl ?_
          refine cv_aload_n C (pc' := 50) rfl (D 24 (49, .aload_n 0, 1) rfl) rfl (j := 0) rfl ?_
          refine cv_get C (pc' := 53) rfl (k0 := 0) (i := 26) (ci := 7) (by decide) rfl rfl (by decide) (o := none) rfl iw_X7 wfX7_105 (D 25 (50, .getfield 105, 3) rfl) (v := .int (nI rc)) (congrArg Value.int hD.1) ?_
          refine cv_iload_n C (pc' := 54) rfl (D 26 (53, .iload_n 1, 1) rfl) rfl (j := 1) rfl ?_
          refine cv_iast C (pc' := 55) rfl (k0 := 15) (j := rc) (by decide) rfl rfl (by omega) (by decide) (D 27 (54, .iastore, 1) rfl) ?_
          refine cv_aload_n C (pc' := 56) rfl (D 28 (55, .aload_n 0, 1) rfl) rfl (j := 0) rfl ?_
          refine cv_get C (pc' := 59) rfl (k0 := 0) (i := 28) (ci := 7) (by decide) rfl rfl (by decide) (o := some 16) rfl iw_X7 wfX7_59 (D 29 (56, .getfield 59, 3) rfl) rfl ?_
          refine cv_aload_n C (pc' := 60) rfl (D 30 (59, .aload_n 0, 1) rfl) rfl (j := 0) rfl ?_
          refine cv_get C (pc' := 63) rfl (k0 := 0) (i := 26) (ci := 7) (by decide) rfl rfl (by decide) (o := none) rfl iw_X7 wfX7_105 (D 31 (60, .getfield 105, 3) rfl) (v := .int (nI rc)) (congrArg Value.int ((congrFun (cv_u_c (by omega)) _).trans hD.1)) ?_
          refine cv_iload_n C (pc' := 64) rfl (D 32 (63, .iload_n 2, 1) rfl) rfl (j := 2) rfl ?_
          refine cv_iast C (pc' := 65) rfl (k0 := 16) (j := rc) (by decide) rfl rfl (by omega) (by decide) (D 33 (64, .iastore, 1) rfl) ?_
          refine cv_aload_n C (pc' := 66) rfl (D 34 (65, .aload_n 0, 1) rfl) rfl (j := 0) rfl ?_
          refine cv_dup C (pc' := 67) rfl (D 35 (66, .dup, 1) rfl) rfl ?_
          refine cv_get C (pc' := 70) rfl (k0 := 0) (i := 26) (ci := 7) (by decide) rfl rfl (by decide) (o := none) rfl iw_X7 wfX7_105 (D 36 (67, .getfield 105, 3) rfl) (v := .int (nI rc)) (congrArg Value.int ((congrFun (cv_u_c (by omega)) _).trans ((congrFun (cv_u_c (by omega)) _).trans hD.1))) ?_
          refine cv_iconst C (pc' := 71) rfl (D 37 (70, .iconst 1, 1) rfl) (v := nI 1) (by decide) ?_
          refine cv_iaddN C (pc' := 72) rfl (D 38 (71, .iadd, 1) rfl) ?_
          refine cv_put C (pc' := 75) rfl (k0 := 0) (i := 26) (ci := 7) (by decide) rfl rfl (by decide) rfl iw_X7 tyX7 tyX7_ok nmX7 wfX7_105 rfl rfl rfl (D 39 (72, .putfield 105, 3) rfl) ?_
          refine cv_aload_n C (pc' := 76) rfl (D 40 (75, .aload_n 0, 1) rfl) rfl (j := 0) rfl ?_
          refine cv_get C (pc' := 79) rfl (k0 := 0) (i := 26) (ci := 7) (by decide) rfl rfl (by decide) (o := none) rfl iw_X7 wfX7_105 (D 41 (76, .getfield 105, 3) rfl) (v := .int (nI (rc + 1))) (congrArg Value.int cv_u_s) ?_
          refine cv_iconst C (pc' := 80) rfl (D 42 (79, .iconst 1, 1) rfl) (v := nI 1) (by decide) ?_
          refine cv_isubN C (pc' := 81) rfl (by omega) (D 43 (80, .isub, 1) rfl) ?_
          exact cv_iret C Rt rfl (D 44 (81, .ireturn, 1) rfl) ⟨congrArg (fun z => some (Value.int z)) (by unfold cv_a_reading; rw [if_pos ⟨b4, (Or.inl b10)⟩, if_pos (by omega), if_pos (by omega)]; rfl), by rw [if_pos ⟨b4, (Or.inl b10), by omega, by omega⟩]; rw [cv_nt, nI_clamp (show j < 2 ^ 31 by omega)]; exact cv_RM_reading hR j _ _ (by unfold cv_on; rw [if_pos b10, b10]; rfl) _ rfl⟩
        · skip
          refine cv_bipush C (pc' := 44) rfl (D 20 (42, .bipush (-4), 2) rfl) (v := -4) (by decide) ?_
          exact cv_iret C Rt rfl (D 21 (44, .ireturn, 1) rfl) ⟨congrArg (fun z => some (Value.int z)) (by unfold cv_a_reading; rw [if_pos ⟨b4, (Or.inl b10)⟩, if_pos (by omega), if_neg (by omega)]), by rw [if_neg (fun h => by have := h.2.2.2; omega)]; exact hR⟩
      · skip
        refine cv_bipush C (pc' := 32) rfl (D 14 (30, .bipush (-3), 2) rfl) (v := -3) (by decide) ?_
        exact cv_iret C Rt rfl (D 15 (32, .ireturn, 1) rfl) ⟨congrArg (fun z => some (Value.int z)) (by unfold cv_a_reading; rw [if_pos ⟨b4, (Or.inl b10)⟩, if_neg (by omega)]), by rw [if_neg (fun h => by have := h.2.2.1; omega)]; exact hR⟩
    · skip
      refine cv_iload_n C (pc' := 14) rfl (D 6 (13, .iload_n 2, 1) rfl) rfl (j := 2) rfl ?_
      refine cv_callS C (pc' := 17) rfl (As := [.int y]) (rest := []) (idx := 124) (np := 1) (kX7_isDay y μ) (by decide +kernel) rfl wmX7_124 wt_yX7_isDay wn_X7 wc_yX7_isDay (by decide) (by decide) (D 7 (14, .invokestatic 124, 3) rfl) (Nat.le_of_ble_eq_true rfl) rfl (fun w9 u9 h9 => ?_)
      rw [h9.1, h9.2]
      show cv_At X _ _ μ 17 _ [.int (cv_b (cv_in y 8))]
      refine cv_if_neB C (pc' := 20) rfl (tgt := 23) (D 8 (17, .ifCond .ne 6, 3) rfl) (by decide) (fun b17 => ?_) (fun b17 => ?_)
      · skip
        obtain ⟨j, hj, rfl⟩ := cv_in_of b4 (by omega)
        have b17y := b17
        obtain ⟨w, hw, rfl⟩ := cv_in_of b17 (by omega)
        refine cv_aload_n C (pc' := 24) rfl (D 11 (23, .aload_n 0, 1) rfl) rfl (j := 0) rfl ?_
        refine cv_get C (pc' := 27) rfl (k0 := 0) (i := 5) (ci := 7) (by decide) rfl rfl (by decide) (o := none) rfl iw_X7 wfX7_71 (D 12 (24, .getfield 71, 3) rfl) (v := .int (nI (L 7 0))) (congrArg Value.int hL.1) ?_
        refine cv_if_neN C (pc' := 30) rfl (by omega) (tgt := 33) (D 13 (27, .ifCond .ne 6, 3) rfl) (by decide) (fun b27 => ?_) (fun b27 => ?_)
        · skip
          refine cv_aload_n C (pc' := 34) rfl (D 16 (33, .aload_n 0, 1) rfl) rfl (j := 0) rfl ?_
          refine cv_get C (pc' := 37) rfl (k0 := 0) (i := 26) (ci := 7) (by decide) rfl rfl (by decide) (o := none) rfl iw_X7 wfX7_105 (D 17 (34, .getfield 105, 3) rfl) (v := .int (nI rc)) (congrArg Value.int hD.1) ?_
          refine cv_bipush C (pc' := 39) rfl (D 18 (37, .bipush 8, 2) rfl) (v := nI 8) (by decide) ?_
          refine cv_icmp_neN C (pc' := 42) rfl (by omega) (by omega) (tgt := 45) (D 19 (39, .if_icmp .ne 6, 3) rfl) (by decide) (fun b39 => ?_) (fun b39 => ?_)
          · skip
            refine cv_aload_n C (pc' := 46) rfl (D 22 (45, .aload_n 0, 1) rfl) rfl (j := 0) rfl ?_
            refine cv_get C (pc' := 49) rfl (k0 := 0) (i := 27) (ci := 7) (by decide) rfl rfl (by decide) (o := some 15) rfl iw_X7 wfX7_56 (D 23 (46, .getfield 56, 3) rfl) rfl ?_
            refine cv_aload_n C (pc' := 50) rfl (D 24 (49, .aload_n 0, 1) rfl) rfl (j := 0) rfl ?_
            refine cv_get C (pc' := 53) rfl (k0 := 0) (i := 26) (ci := 7) (by decide) rfl rfl (by decide) (o := none) rfl iw_X7 wfX7_105 (D 25 (50, .getfield 105, 3) rfl) (v := .int (nI rc)) (congrArg Value.int hD.1) ?_
            refine cv_iload_n C (pc' := 54) rfl (D 26 (53, .iload_n 1, 1) rfl) rfl (j := 1) rfl ?_
            refine cv_iast C (pc' := 55) rfl (k0 := 15) (j := rc) (by decide) rfl rfl (by omega) (by decide) (D 27 (54, .iastore, 1) rfl) ?_
            refine cv_aload_n C (pc' := 56) rfl (D 28 (55, .aload_n 0, 1) rfl) rfl (j := 0) rfl ?_
            refine cv_get C (pc' := 59) rfl (k0 := 0) (i := 28) (ci := 7) (by decide) rfl rfl (by decide) (o := some 16) rfl iw_X7 wfX7_59 (D 29 (56, .getfield 59, 3) rfl) rfl ?_
            refine cv_aload_n C (pc' := 60) rfl (D 30 (59, .aload_n 0, 1) rfl) rfl (j := 0) rfl ?_
            refine cv_get C (pc' := 63) rfl (k0 := 0) (i := 26) (ci := 7) (by decide) rfl rfl (by decide) (o := none) rfl iw_X7 wfX7_105 (D 31 (60, .getfield 105, 3) rfl) (v := .int (nI rc)) (congrArg Value.int ((congrFun (cv_u_c (by omega)) _).trans hD.1)) ?_
            refine cv_iload_n C (pc' := 64) rfl (D 32 (63, .iload_n 2, 1) rfl) rfl (j := 2) rfl ?_
            refine cv_iast C (pc' := 65) rfl (k0 := 16) (j := rc) (by decide) rfl rfl (by omega) (by decide) (D 33 (64, .iastore, 1) rfl) ?_
            refine cv_aload_n C (pc' := 66) rfl (D 34 (65, .aload_n 0, 1) rfl) rfl (j := 0) rfl ?_
            refine cv_dup C (pc' := 67) rfl (D 35 (66, .dup, 1) rfl) rfl ?_
            refine cv_get C (pc' := 70) rfl (k0 := 0) (i := 26) (ci := 7) (by decide) rfl rfl (by decide) (o := none) rfl iw_X7 wfX7_105 (D 36 (67, .getfield 105, 3) rfl) (v := .int (nI rc)) (congrArg Value.int ((congrFun (cv_u_c (by omega)) _).trans ((congrFun (cv_u_c (by omega)) _).trans hD.1))) ?_
            refine cv_iconst C (pc' := 71) rfl (D 37 (70, .iconst 1, 1) rfl) (v := nI 1) (by decide) ?_
            refine cv_iaddN C (pc' := 72) rfl (D 38 (71, .iadd, 1) rfl) ?_
            refine cv_put C (pc' := 75) rfl (k0 := 0) (i := 26) (ci := 7) (by decide) rfl rfl (by decide) rfl iw_X7 tyX7 tyX7_ok nmX7 wfX7_105 rfl rfl rfl (D 39 (72, .putfield 105, 3) rfl) ?_
            refine cv_aload_n C (pc' := 76) rfl (D 40 (75, .aload_n 0, 1) rfl) rfl (j := 0) rfl ?_
            refine cv_get C (pc' := 79) rfl (k0 := 0) (i := 26) (ci := 7) (by decide) rfl rfl (by decide) (o := none) rfl iw_X7 wfX7_105 (D 41 (76, .getfield 105, 3) rfl) (v := .int (nI (rc + 1))) (congrArg Value.int cv_u_s) ?_
            refine cv_iconst C (pc' := 80) rfl (D 42 (79, .iconst 1, 1) rfl) (v := nI 1) (by decide) ?_
            refine cv_isubN C (pc' := 81) rfl (by omega) (D 43 (80, .isub, 1) rfl) ?_
            exact cv_iret C Rt rfl (D 44 (81, .ireturn, 1) rfl) ⟨congrArg (fun z => some (Value.int z)) (by unfold cv_a_reading; rw [if_pos ⟨b4, (Or.inr b17)⟩, if_pos (by omega), if_pos (by omega)]; rfl), by rw [if_pos ⟨b4, (Or.inr b17), by omega, by omega⟩]; rw [cv_nt, nI_clamp (show j < 2 ^ 31 by omega)]; exact cv_RM_reading hR j _ _ (by unfold cv_on; rw [if_neg b10, cv_nt, nI_clamp (show w < 2 ^ 31 by omega)]; rfl) _ rfl⟩
          · skip
            refine cv_bipush C (pc' := 44) rfl (D 20 (42, .bipush (-4), 2) rfl) (v := -4) (by decide) ?_
            exact cv_iret C Rt rfl (D 21 (44, .ireturn, 1) rfl) ⟨congrArg (fun z => some (Value.int z)) (by unfold cv_a_reading; rw [if_pos ⟨b4, (Or.inr b17)⟩, if_pos (by omega), if_neg (by omega)]), by rw [if_neg (fun h => by have := h.2.2.2; omega)]; exact hR⟩
        · skip
          refine cv_bipush C (pc' := 32) rfl (D 14 (30, .bipush (-3), 2) rfl) (v := -3) (by decide) ?_
          exact cv_iret C Rt rfl (D 15 (32, .ireturn, 1) rfl) ⟨congrArg (fun z => some (Value.int z)) (by unfold cv_a_reading; rw [if_pos ⟨b4, (Or.inr b17)⟩, if_neg (by omega)]), by rw [if_neg (fun h => by have := h.2.2.1; omega)]; exact hR⟩
      · skip
        refine cv_bipush C (pc' := 22) rfl (D 9 (20, .bipush (-2), 2) rfl) (v := -2) (by decide) ?_
        exact cv_iret C Rt rfl (D 10 (22, .ireturn, 1) rfl) ⟨congrArg (fun z => some (Value.int z)) (by unfold cv_a_reading; rw [if_neg (by simp [b10, b17])]), by rw [if_neg (fun h => by rcases h.2.1 with h | h; exact b10 h; rw [b17] at h; cases h)]; exact hR⟩

set_option maxHeartbeats 4000000 in
set_option maxRecDepth 100000 in
theorem pX7_back (tr : Int32) (ft : Nat) (sl : Nat → Option (Nat × Nat)) (sc : Nat → Nat → Int32) (L : cv_L) (rc : Nat) (rd : Nat → Nat) (rn : Nat → Option Nat) (x : Int32) (μ : cv_St) (hR : cv_RM tr ft sl sc L rc rd rn μ) (hB : cv_LB L) (hDB : cv_DB rc rd rn) : cv_Ct yX7_back cX7_back 2 (some .int) 1 0 0 17 cv_shM [.ref 0, .int x] μ (fun v u => v = some (.int (cv_a_back rc x)) ∧ cv_RM tr ft sl sc L (if cv_in x (rc + 1) = true then rc - cv_nt x else rc) rd rn u) := by
  refine cv_enter (own := RX7) (by decide) rfl (Nat.le_of_ble_eq_true rfl) ?_
  intro X a C Rt hRm
  have D := @cv_dec _ _ dkX7_back
  obtain ⟨hTr, hFt, hSh, hL, hM, hD⟩ := id hR
  have hn6 := hB.1
  have hrc := hDB.1
  show cv_At X _ _ μ 0 [(0, .ref 0), (1, .int x)] []
  refine cv_iload_n C (pc' := 1) rfl (D 0 (0, .iload_n 1, 1) rfl) rfl (j := 1) rfl ?_
  refine cv_iconst C (pc' := 2) rfl (D 1 (1, .iconst 0, 1) rfl) (v := nI 0) (by decide) ?_
  refine cv_aload_n C (pc' := 3) rfl (D 2 (2, .aload_n 0, 1) rfl) rfl (j := 0) rfl ?_
  refine cv_get C (pc' := 6) rfl (k0 := 0) (i := 26) (ci := 7) (by decide) rfl rfl (by decide) (o := none) rfl iw_X7 wfX7_105 (D 3 (3, .getfield 105, 3) rfl) (v := .int (nI rc)) (congrArg Value.int hD.1) ?_
  refine cv_callS C (pc' := 9) rfl (As := [.int x, .int (nI 0), .int (nI rc)]) (rest := []) (idx := 67) (np := 3) (kX7_within x (nI 0) (nI rc) μ) (by decide +kernel) rfl wmX7_67 wt_yX7_within wn_X7 wc_yX7_within (by decide) (by decide) (D 4 (6, .invokestatic 67, 3) rfl) (Nat.le_of_ble_eq_true rfl) rfl (fun w9 u9 h9 => ?_)
  rw [h9.1, h9.2]
  show cv_At X _ _ μ 9 _ [.int (cv_b (decide ((nI 0) ≤ x ∧ x ≤ (nI rc))))]
  refine cv_if_neB C (pc' := 12) rfl (tgt := 15) (D 5 (9, .ifCond .ne 6, 3) rfl) (by decide) (fun b9 => ?_) (fun b9 => ?_)
  · skip
    rw [cv_in_le (by omega)] at b9
    obtain ⟨j, hj, rfl⟩ := cv_in_of b9 (by omega)
    refine cv_aload_n C (pc' := 16) rfl (D 8 (15, .aload_n 0, 1) rfl) rfl (j := 0) rfl ?_
    refine cv_dup C (pc' := 17) rfl (D 9 (16, .dup, 1) rfl) rfl ?_
    refine cv_get C (pc' := 20) rfl (k0 := 0) (i := 26) (ci := 7) (by decide) rfl rfl (by decide) (o := none) rfl iw_X7 wfX7_105 (D 10 (17, .getfield 105, 3) rfl) (v := .int (nI rc)) (congrArg Value.int hD.1) ?_
    refine cv_iload_n C (pc' := 21) rfl (D 11 (20, .iload_n 1, 1) rfl) rfl (j := 1) rfl ?_
    refine cv_isubN C (pc' := 22) rfl (by omega) (D 12 (21, .isub, 1) rfl) ?_
    refine cv_put C (pc' := 25) rfl (k0 := 0) (i := 26) (ci := 7) (by decide) rfl rfl (by decide) rfl iw_X7 tyX7 tyX7_ok nmX7 wfX7_105 rfl rfl rfl (D 13 (22, .putfield 105, 3) rfl) ?_
    refine cv_aload_n C (pc' := 26) rfl (D 14 (25, .aload_n 0, 1) rfl) rfl (j := 0) rfl ?_
    refine cv_get C (pc' := 29) rfl (k0 := 0) (i := 26) (ci := 7) (by decide) rfl rfl (by decide) (o := none) rfl iw_X7 wfX7_105 (D 15 (26, .getfield 105, 3) rfl) (v := .int (nI (rc - j))) (congrArg Value.int cv_u_s) ?_
    exact cv_iret C Rt rfl (D 16 (29, .ireturn, 1) rfl) ⟨congrArg (fun z => some (Value.int z)) (by unfold cv_a_back; rw [if_pos b9, cv_nt, nI_clamp (by omega)]), by rw [if_pos b9, cv_nt, nI_clamp (by omega)]; exact cv_RM_back hR _ (Nat.sub_le _ _)⟩
  · skip
    rw [cv_in_le (by omega)] at b9
    refine cv_bipush C (pc' := 14) rfl (D 6 (12, .bipush (-2), 2) rfl) (v := -2) (by decide) ?_
    exact cv_iret C Rt rfl (D 7 (14, .ireturn, 1) rfl) ⟨congrArg (fun z => some (Value.int z)) (by unfold cv_a_back; rw [if_neg (by simp [b9])]), by rw [if_neg (by simp [b9])]; exact hR⟩

