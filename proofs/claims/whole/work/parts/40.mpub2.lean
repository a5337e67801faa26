theorem cv_can_9 {L : cv_L} (hB : cv_LB L) (d w r t : Nat) : cv_can L (-9) d w r t = cv_can L (-1) d w r t := by
  unfold cv_can
  rw [cv_so_9 hB]
theorem cv_la_cg {P Q : Nat → Bool} : ∀ n, (∀ k, k < n → P k = Q k) → cv_la P n = cv_la Q n
  | 0, _ => rfl
  | n + 1, h => by
    simp only [cv_la]
    rw [h n (by omega), cv_la_cg n (fun k hk => h k (by omega))]
theorem cv_can_give (L : cv_L) (x : Int32) (a b d w r t : Nat) : cv_can (cv_lu (cv_lu L 6 1 a) 6 2 b) x d w r t = cv_can L x d w r t := by
  unfold cv_can
  rw [cv_so_give]
theorem cv_LB_12 {L : cv_L} (hB : cv_LB L) {a b : Nat} (ha : a < 256) (hb : b < 256) : cv_LB (cv_lu (cv_lu L 6 1 a) 6 2 b) := cv_LB_give (cv_LB_give hB ha) hb
theorem cv_lu_12 (L : cv_L) (a b : Nat) : cv_lu (cv_lu L 6 1 a) 6 2 b 6 1 = a ∧ cv_lu (cv_lu L 6 1 a) 6 2 b 6 2 = b := ⟨by rw [cv_lu_i (by decide), cv_lu_s], cv_lu_s⟩
set_option maxHeartbeats 4000000 in
set_option maxRecDepth 100000 in
theorem pX7_last (tr : Int32) (ft : Nat) (sl : Nat → Option (Nat × Nat)) (sc : Nat → Nat → Int32) (L : cv_L) (rc : Nat) (rd : Nat → Nat) (rn : Nat → Option Nat) (x : Int32) (μ : cv_St) (hR : cv_RM tr ft sl sc L rc rd rn μ) (hB : cv_LB L) (hDB : cv_DB rc rd rn) : cv_Ct yX7_last cX7_last 4 (some .int) 6 0 0 17 cv_shM [.ref 0, .int x] μ (fun v u => v = some (.int (cv_a_last L x)) ∧ cv_RM tr ft sl sc L rc rd rn u) := by
  refine cv_enter (own := RX7) (by decide) rfl (Nat.le_of_ble_eq_true rfl) ?_
  intro X a C Rt hRm
  have D := @cv_dec _ _ dkX7_last
  obtain ⟨hTr, hFt, hSh, hL, hM, hD⟩ := id hR
  have hn6 := hB.1
  have hrc := hDB.1
  show cv_At X _ _ μ 0 [(0, .ref 0), (1, .int x)] []
  refine cv_iload_n C (pc' := 1) rfl (D 0 (0, .iload_n 1, 1) rfl) rfl (j := 1) rfl ?_
  refine cv_callS C (pc' := 4) rfl (As := [.int x]) (rest := []) (idx := 124) (np := 1) (kX7_isDay x μ) (by decide +kernel) rfl wmX7_124 wt_yX7_isDay wn_X7 wc_yX7_isDay (by decide) (by decide) (D 1 (1, .invokestatic 124, 3) rfl) (Nat.le_of_ble_eq_true rfl) rfl (fun w9 u9 h9 => ?_)
  rw [h9.1, h9.2]
  show cv_At X _ _ μ 4 _ [.int (cv_b (cv_in x 8))]
  refine cv_if_neB C (pc' := 7) rfl (tgt := 10) (D 2 (4, .ifCond .ne 6, 3) rfl) (by decide) (fun b4 => ?_) (fun b4 => ?_)
  · skip
    obtain ⟨j, hj, rfl⟩ := cv_in_of b4 (by omega)
    refine cv_aload_n C (pc' := 11) rfl (D 5 (10, .aload_n 0, 1) rfl) rfl (j := 0) rfl ?_
    refine cv_get C (pc' := 14) rfl (k0 := 0) (i := 5) (ci := 7) (by decide) rfl rfl (by decide) (o := none) rfl iw_X7 wfX7_71 (D 6 (11, .getfield 71, 3) rfl) (v := .int (nI (L 7 0))) (congrArg Value.int hL.1) ?_
    refine cv_if_neN C (pc' := 17) rfl (by omega) (tgt := 20) (D 7 (14, .ifCond .ne 6, 3) rfl) (by decide) (fun b14 => ?_) (fun b14 => ?_)
    · skip
      refine cv_bipush C (pc' := 22) rfl (D 10 (20, .bipush (-9), 2) rfl) (v := -9) (by decide) ?_
      refine cv_istore_n C (pc' := 23) rfl (D 11 (22, .istore_n 2, 1) rfl) rfl (by decide) (lv' := [(2, .int (-9)), (0, .ref 0), (1, .int (nI j))]) rfl ?_
      refine cv_iconst C (pc' := 24) rfl (D 12 (23, .iconst 0, 1) rfl) (v := nI 0) (by decide) ?_
      refine cv_istore_n C (pc' := 25) rfl (D 13 (24, .istore_n 3, 1) rfl) rfl (by decide) (lv' := [(3, .int (nI 0)), (2, .int (-9)), (0, .ref 0), (1, .int (nI j))]) rfl ?_
      refine cv_pick [0, 1, 2, 3] (lv' := [(3, .int (nI 0)), (2, .int (cv_o (cv_la (fun d => cv_can L (-9) d j (L 6 1) (L 6 2)) 0))), (0, .ref 0), (1, .int (nI j))]) rfl ?_
      have LP25 : ∀ (r : Nat) (k : Nat) (τ : cv_St), (k + r = j + 1) → (cv_fw μ τ) → cv_At X (17, cv_shM, 0, 0, a) 4 τ 25 [(3, .int (nI k)), (2, .int (cv_o (cv_la (fun d => cv_can L (-9) d j (L 6 1) (L 6 2)) k))), (0, .ref 0), (1, .int (nI j))] [] := by
        intro r
        induction r with
        | zero =>
          intro k τ hr hFτ
          refine cv_iload_n C (pc' := 26) rfl (D 14 (25, .iload_n 3, 1) rfl) rfl (j := 0) rfl ?_
          refine cv_iload_n C (pc' := 27) rfl (D 15 (26, .iload_n 1, 1) rfl) rfl (j := 3) rfl ?_
          refine cv_icmp_gtN C (pc' := 30) rfl (by omega) (by omega) (tgt := 51) (D 16 (27, .if_icmp .gt 24, 3) rfl) (by decide) (fun b27 => ?_) (fun b27 => ?_)
          · skip
            refine cv_iload_n C (pc' := 52) rfl (D 28 (51, .iload_n 2, 1) rfl) rfl (j := 1) rfl ?_
            exact cv_iret C Rt rfl (D 29 (52, .ireturn, 1) rfl) ⟨congrArg (fun z => some (Value.int z)) (by unfold cv_a_last cv_day; rw [if_pos b4, if_pos (by omega), cv_nt, nI_clamp (by omega)]; rw [show k = j + 1 by omega, ← cv_la_to (fun d hd h => cv_can_ge hB hd h) 8 (Nat.le_refl _) (by omega)]; exact congrArg cv_o (cv_la_cg 8 (fun d _ => cv_can_9 hB d j _ _))), cv_RM_k (cv_fw_m hFτ) hR⟩
          · skip
            omega
        | succ r ih25 =>
          intro k τ hr hFτ
          have hLτ := cv_LM_w hFτ hL
          have hMτ : τ 0 13 = -9 := by rw [hFτ.2 13 (by decide) (by decide)]; exact hM
          refine cv_iload_n C (pc' := 26) rfl (D 14 (25, .iload_n 3, 1) rfl) rfl (j := 0) rfl ?_
          refine cv_iload_n C (pc' := 27) rfl (D 15 (26, .iload_n 1, 1) rfl) rfl (j := 3) rfl ?_
          refine cv_icmp_gtN C (pc' := 30) rfl (by omega) (by omega) (tgt := 51) (D 16 (27, .if_icmp .gt 24, 3) rfl) (by decide) (fun b27 => ?_) (fun b27 => ?_)
          · skip
            omega
          · skip
            refine cv_aload_n C (pc' := 31) rfl (D 17 (30, .aload_n 0, 1) rfl) rfl (j := 2) rfl ?_
            refine cv_iload_n C (pc' := 32) rfl (D 18 (31, .iload_n 3, 1) rfl) rfl (j := 0) rfl ?_
            refine cv_iload_n C (pc' := 33) rfl (D 19 (32, .iload_n 1, 1) rfl) rfl (j := 3) rfl ?_
            refine cv_callV C (pc' := 36) rfl (k0 := 0) (ci := 7) (As := [.int (nI k), .int (nI j)]) (rest := []) (idx := 182) (np := 2) (kX7_canBy L (-9) k j τ hLτ hB hMτ (by omega) (by omega)) (by decide) rfl rfl rfl (by decide +kernel) rfl wmX7_182 wi_yX7_canBy ws_yX7_canBy wn_X7 wc_yX7_canBy (by decide) (by decide) (D 20 (33, .invokevirtual 182, 3) rfl) (Nat.le_of_ble_eq_true rfl) rfl (fun w33 u33 h33 => ?_)
            obtain ⟨e33, f33⟩ := h33
            rw [e33]
            have hFu33 : cv_fw μ u33 := cv_fw_t hFτ f33
            have hLu33 := cv_LM_w hFu33 hL
            show cv_At X _ _ u33 36 _ [.int (cv_b (cv_can L (-9) k j (L 6 1) (L 6 2)))]
            refine cv_if_eqB C (pc' := 39) rfl (tgt := 43) (D 21 (36, .ifCond .eq 7, 3) rfl) (by decide) (fun b36 => ?_) (fun b36 => ?_)
            · skip
              refine cv_iload_n C (pc' := 44) rfl (D 24 (43, .iload_n 2, 1) rfl) rfl (j := 1) rfl ?_
              refine cv_istore_n C (pc' := 45) rfl (D 25 (44, .istore_n 2, 1) rfl) rfl (by decide) (lv' := [(2, .int (cv_o (cv_la (fun d => cv_can L (-9) d j (L 6 1) (L 6 2)) k))), (3, .int (nI k)), (0, .ref 0), (1, .int (nI j))]) rfl ?_
              refine cv_iincN C (pc' := 48) rfl (D 26 (45, .iinc 3 1, 3) rfl) (j := 1) rfl (by decide) (lv' := [(3, .int (nI (k + 1))), (2, .int (cv_o (cv_la (fun d => cv_can L (-9) d j (L 6 1) (L 6 2)) k))), (0, .ref 0), (1, .int (nI j))]) rfl ?_
              refine cv_goto C (tgt := 25) (D 27 (48, .goto (-23), 3) rfl) (by decide) ?_
              have hw9 : cv_o (cv_la (fun d => cv_can L (-9) d j (L 6 1) (L 6 2)) k) = cv_o (cv_la (fun d => cv_can L (-9) d j (L 6 1) (L 6 2)) (k + 1)) := by simp only [cv_la]; rw [if_neg (by simp [b36])]
              rw [hw9]
              exact ih25 (k + 1) u33 (by omega) hFu33
            · skip
              refine cv_iload_n C (pc' := 40) rfl (D 22 (39, .iload_n 3, 1) rfl) rfl (j := 0) rfl ?_
              refine cv_goto C (tgt := 44) (D 23 (40, .goto 4, 3) rfl) (by decide) ?_
              refine cv_istore_n C (pc' := 45) rfl (D 25 (44, .istore_n 2, 1) rfl) rfl (by decide) (lv' := [(2, .int (nI k)), (3, .int (nI k)), (0, .ref 0), (1, .int (nI j))]) rfl ?_
              refine cv_iincN C (pc' := 48) rfl (D 26 (45, .iinc 3 1, 3) rfl) (j := 1) rfl (by decide) (lv' := [(3, .int (nI (k + 1))), (2, .int (nI k)), (0, .ref 0), (1, .int (nI j))]) rfl ?_
              refine cv_goto C (tgt := 25) (D 27 (48, .goto (-23), 3) rfl) (by decide) ?_
              have hw9 : nI k = cv_o (cv_la (fun d => cv_can L (-9) d j (L 6 1) (L 6 2)) (k + 1)) := by simp only [cv_la]; rw [if_pos b36]; rfl
              rw [hw9]
              exact ih25 (k + 1) u33 (by omega) hFu33
      exact LP25 (j + 1) 0 μ (by omega) (cv_fw_r μ)
    · skip
      refine cv_bipush C (pc' := 19) rfl (D 8 (17, .bipush (-3), 2) rfl) (v := -3) (by decide) ?_
      exact cv_iret C Rt rfl (D 9 (19, .ireturn, 1) rfl) ⟨congrArg (fun z => some (Value.int z)) (by unfold cv_a_last cv_day; rw [if_pos b4, if_neg (by omega)]), hR⟩
  · skip
    refine cv_bipush C (pc' := 9) rfl (D 3 (7, .bipush (-2), 2) rfl) (v := -2) (by decide) ?_
    exact cv_iret C Rt rfl (D 4 (9, .ireturn, 1) rfl) ⟨congrArg (fun z => some (Value.int z)) (by unfold cv_a_last cv_day; rw [if_neg (by simp [b4])]), hR⟩

/-- but for the wheel's scratch and the days of gifts, as it was -/
def cv_fg (μ u : cv_St) : Prop := (∀ k, k ≠ 0 → k ≠ 14 → k ≠ 5 → u k = μ k) ∧ (∀ i, i ≠ 20 → i ≠ 21 → u 0 i = μ 0 i) ∧ ∀ i, i ≠ 1 → i ≠ 2 → u 5 i = μ 5 i
theorem cv_fg_r (μ : cv_St) : cv_fg μ μ := ⟨fun _ _ _ _ => rfl, fun _ _ _ => rfl, fun _ _ _ => rfl⟩
theorem cv_fg_w {μ u w : cv_St} (h : cv_fg μ u) (h2 : cv_fw u w) : cv_fg μ w := ⟨fun k a b c => (h2.1 k a b).trans (h.1 k a b c), fun i a b => (h2.2 i a b).trans (h.2.1 i a b), fun i a b => by rw [h2.1 5 (by decide) (by decide)]; exact h.2.2 i a b⟩
theorem cv_fg_12 {μ u : cv_St} (h : cv_fg μ u) (a b : Int32) : cv_fg μ (cv_u (cv_u u 5 1 a) 5 2 b) := ⟨fun k p q r => by rw [cv_u_c r, cv_u_c r]; exact h.1 k p q r, fun i p q => by rw [cv_u_c (by decide), cv_u_c (by decide)]; exact h.2.1 i p q, fun i p q => by rw [cv_u_i q, cv_u_i p]; exact h.2.2 i p q⟩
theorem cv_LM_fg {L : cv_L} {μ u : cv_St} (hL : cv_LM L μ) (h : cv_fg μ u) (a b : Nat) : cv_LM (cv_lu (cv_lu L 6 1 a) 6 2 b) (cv_u (cv_u u 5 1 (nI a)) 5 2 (nI b)) := by
  have h9 := cv_fg_12 h (nI a) (nI b)
  refine ⟨by rw [h9.2.1 5 (by decide) (by decide), cv_lu_k (by decide), cv_lu_k (by decide)]; exact hL.1, fun d hd => by rw [h9.1 4 (by decide) (by decide) (by decide), cv_lu_k (by decide), cv_lu_k (by decide)]; exact hL.2.1 d hd, fun v hv => ?_, fun p hp i hi => by rw [cv_lu_k (by decide), cv_lu_k (by decide)] at hp; rw [h9.1 (6 + i) (by omega) (by omega) (by omega), cv_lu_k (by omega), cv_lu_k (by omega)]; exact hL.2.2.2 p hp i hi⟩
  by_cases e2 : v = 2
  · subst e2; rw [cv_u_s, cv_lu_s]
  · by_cases e1 : v = 1
    · subst e1; rw [cv_u_i (by decide), cv_lu_i (by decide), cv_u_s, cv_lu_s]
    · rw [h9.2.2 v e1 e2, cv_lu_i e2, cv_lu_i e1]; exact hL.2.2.1 v hv
/-- put back, only the wheel's scratch has changed -/
theorem cv_fg_fw {L : cv_L} {μ u : cv_St} (hL : cv_LM L μ) (h : cv_fg μ u) : cv_fw μ (cv_u (cv_u u 5 1 (nI (L 6 1))) 5 2 (nI (L 6 2))) := by
  have h9 := cv_fg_12 h (nI (L 6 1)) (nI (L 6 2))
  refine ⟨fun k a b => ?_, h9.2.1⟩
  by_cases e : k = 5
  · subst e
    funext i
    by_cases e2 : i = 2
    · subst e2; rw [cv_u_s]; exact (hL.2.2.1 2 (by decide)).symm
    · by_cases e1 : i = 1
      · subst e1; rw [cv_u_i (by decide), cv_u_s]; exact (hL.2.2.1 1 (by decide)).symm
      · exact h9.2.2 i e1 e2
  · exact h9.1 k a b e
theorem cv_al_s (P : Nat → Bool) (n : Nat) : cv_al P (n + 1) = (cv_al P n && P n) := by
  rw [Bool.eq_iff_iff, Bool.and_eq_true, cv_al_iff, cv_al_iff]
  constructor
  · intro h
    exact ⟨fun k hk => h k (by omega), h n (by omega)⟩
  · intro h k hk
    by_cases e : k = n
    · rw [e]; exact h.2
    · exact h.1 k (by omega)
set_option maxHeartbeats 4000000 in
set_option maxRecDepth 100000 in
theorem kX7_isSafe (L : cv_L) (x : Int32) (d f : Nat) (μ : cv_St) (hL : cv_LM L μ) (hB : cv_LB L) (hM : μ 0 13 = x) (hd : d < 8) (hf : f < 8) : cv_Ct yX7_isSafe cX7_isSafe 7 (some .boolean) 6 0 0 17 cv_shM [.ref 0, .int (nI d), .int (nI f)] μ (fun v u => v = some (.int (cv_b (cv_al (fun h => cv_can L x d f (cv_clr (L 6 1) (h / 9)) (cv_clr (L 6 2) (h % 9))) 81))) ∧ cv_fw μ u) := by
  refine cv_enter (own := RX7) (by decide) rfl (Nat.le_of_ble_eq_true rfl) ?_
  intro X a C Rt hRm
  have D := @cv_dec _ _ dkX7_isSafe
  have hg1 := hB.2.2.2 1 (by decide)
  have hg2 := hB.2.2.2 2 (by decide)
  show cv_At X _ _ μ 0 [(0, .ref 0), (1, .int (nI d)), (2, .int (nI f))] []
  refine cv_aload_n C (pc' := 1) rfl (D 0 (0, .aload_n 0, 1) rfl) rfl (j := 0) rfl ?_
  refine cv_get C (pc' := 4) rfl (k0 := 0) (i := 7) (ci := 7) (by decide) rfl rfl (by decide) (o := some 5) rfl iw_X7 wfX7_22 (D 1 (1, .getfield 22, 3) rfl) rfl ?_
  refine cv_iconst C (pc' := 5) rfl (D 2 (4, .iconst 1, 1) rfl) (v := nI 1) (by decide) ?_
  refine cv_iald C (pc' := 6) rfl (k0 := 5) (j := 1) (by decide) rfl rfl (by omega) (by decide) (D 3 (5, .iaload, 1) rfl) (v := nI (L 6 1)) (hL.2.2.1 _ (by omega)) ?_
  refine cv_istore_n C (pc' := 7) rfl (D 4 (6, .istore_n 3, 1) rfl) rfl (by decide) (lv' := [(3, .int (nI (L 6 1))), (0, .ref 0), (1, .int (nI d)), (2, .int (nI f))]) rfl ?_
  refine cv_aload_n C (pc' := 8) rfl (D 5 (7, .aload_n 0, 1) rfl) rfl (j := 1) rfl ?_
  refine cv_get C (pc' := 11) rfl (k0 := 0) (i := 7) (ci := 7) (by decide) rfl rfl (by decide) (o := some 5) rfl iw_X7 wfX7_22 (D 6 (8, .getfield 22, 3) rfl) rfl ?_
  refine cv_iconst C (pc' := 12) rfl (D 7 (11, .iconst 2, 1) rfl) (v := nI 2) (by decide) ?_
  refine cv_iald C (pc' := 13) rfl (k0 := 5) (j := 2) (by decide) rfl rfl (by omega) (by decide) (D 8 (12, .iaload, 1) rfl) (v := nI (L 6 2)) (hL.2.2.1 _ (by omega)) ?_
  refine cv_istore C (pc' := 15) rfl (D 9 (13, .istore 4, 2) rfl) (by decide) (lv' := [(4, .int (nI (L 6 2))), (3, .int (nI (L 6 1))), (0, .ref 0), (1, .int (nI d)), (2, .int (nI f))]) rfl ?_
  refine cv_iconst C (pc' := 16) rfl (D 10 (15, .iconst 1, 1) rfl) (v := nI 1) (by decide) ?_
  refine cv_istore C (pc' := 18) rfl (D 11 (16, .istore 5, 2) rfl) (by decide) (lv' := [(5, .int (nI 1)), (4, .int (nI (L 6 2))), (3, .int (nI (L 6 1))), (0, .ref 0), (1, .int (nI d)), (2, .int (nI f))]) rfl ?_
  refine cv_iconst C (pc' := 19) rfl (D 12 (18, .iconst 0, 1) rfl) (v := nI 0) (by decide) ?_
  refine cv_istore C (pc' := 21) rfl (D 13 (19, .istore 6, 2) rfl) (by decide) (lv' := [(6, .int (nI 0)), (5, .int (nI 1)), (4, .int (nI (L 6 2))), (3, .int (nI (L 6 1))), (0, .ref 0), (1, .int (nI d)), (2, .int (nI f))]) rfl ?_
  refine cv_pick [0, 1, 4, 5, 6, 3, 2] (lv' := [(6, .int (nI 0)), (5, .int (cv_b (cv_al (fun h => cv_can L x d f (cv_clr (L 6 1) (h / 9)) (cv_clr (L 6 2) (h % 9))) 0))), (0, .ref 0), (1, .int (nI d)), (2, .int (nI f)), (3, .int (nI (L 6 1))), (4, .int (nI (L 6 2)))]) rfl ?_
  have LP21 : ∀ (r : Nat) (k : Nat) (τ : cv_St), (k + r = 81) → (cv_fg μ τ) → cv_At X (17, cv_shM, 0, 0, a) 7 τ 21 [(6, .int (nI k)), (5, .int (cv_b (cv_al (fun h => cv_can L x d f (cv_clr (L 6 1) (h / 9)) (cv_clr (L 6 2) (h % 9))) k))), (0, .ref 0), (1, .int (nI d)), (2, .int (nI f)), (3, .int (nI (L 6 1))), (4, .int (nI (L 6 2)))] [] := by
    intro r
    induction r with
    | zero =>
      intro k τ hr hGτ
      refine cv_iload C (pc' := 23) rfl (D 14 (21, .iload 6, 2) rfl) (j := 0) rfl ?_
      refine cv_bipush C (pc' := 25) rfl (D 15 (23, .bipush 81, 2) rfl) (v := nI 81) (by decide) ?_
      refine cv_icmp_geN C (pc' := 28) rfl (by omega) (by omega) (tgt := 82) (D 16 (25, .if_icmp .ge 57, 3) rfl) (by decide) (fun b25 => ?_) (fun b25 => ?_)
      · skip
        refine cv_aload_n C (pc' := 83) rfl (D 52 (82, .aload_n 0, 1) rfl) rfl (j := 2) rfl ?_
        refine cv_get C (pc' := 86) rfl (k0 := 0) (i := 7) (ci := 7) (by decide) rfl rfl (by decide) (o := some 5) rfl iw_X7 wfX7_22 (D 53 (83, .getfield 22, 3) rfl) rfl ?_
        refine cv_iconst C (pc' := 87) rfl (D 54 (86, .iconst 1, 1) rfl) (v := nI 1) (by decide) ?_
        refine cv_iload_n C (pc' := 88) rfl (D 55 (87, .iload_n 3, 1) rfl) rfl (j := 5) rfl ?_
        refine cv_iast C (pc' := 89) rfl (k0 := 5) (j := 1) (by decide) rfl rfl (by omega) (by decide) (D 56 (88, .iastore, 1) rfl) ?_
        refine cv_aload_n C (pc' := 90) rfl (D 57 (89, .aload_n 0, 1) rfl) rfl (j := 2) rfl ?_
        refine cv_get C (pc' := 93) rfl (k0 := 0) (i := 7) (ci := 7) (by decide) rfl rfl (by decide) (o := some 5) rfl iw_X7 wfX7_22 (D 58 (90, .getfield 22, 3) rfl) rfl ?_
        refine cv_iconst C (pc' := 94) rfl (D 59 (93, .iconst 2, 1) rfl) (v := nI 2) (by decide) ?_
        refine cv_iload C (pc' := 96) rfl (D 60 (94, .iload 4, 2) rfl) (j := 6) rfl ?_
        refine cv_iast C (pc' := 97) rfl (k0 := 5) (j := 2) (by decide) rfl rfl (by omega) (by decide) (D 61 (96, .iastore, 1) rfl) ?_
        refine cv_iload C (pc' := 99) rfl (D 62 (97, .iload 5, 2) rfl) (j := 1) rfl ?_
        exact cv_iret C Rt (cv_b_nar _) (D 63 (99, .ireturn, 1) rfl) ⟨congrArg (fun z => some (Value.int z)) (by rw [show k = 81 by omega]), cv_fg_fw hL hGτ⟩
      · skip
        omega
    | succ r ih21 =>
      intro k τ hr hGτ
      have hc1 := cv_clr_le (L 6 1) (k / 9)
      have hc2 := cv_clr_le (L 6 2) (k % 9)
      refine cv_iload C (pc' := 23) rfl (D 14 (21, .iload 6, 2) rfl) (j := 0) rfl ?_
      refine cv_bipush C (pc' := 25) rfl (D 15 (23, .bipush 81, 2) rfl) (v := nI 81) (by decide) ?_
      refine cv_icmp_geN C (pc' := 28) rfl (by omega) (by omega) (tgt := 82) (D 16 (25, .if_icmp .ge 57, 3) rfl) (by decide) (fun b25 => ?_) (fun b25 => ?_)
      · skip
        omega
      · skip
        refine cv_iload C (pc' := 30) rfl (D 17 (28, .iload 5, 2) rfl) (j := 1) rfl ?_
        refine cv_if_eqB C (pc' := 33) rfl (tgt := 82) (D 18 (30, .ifCond .eq 52, 3) rfl) (by decide) (fun b30 => ?_) (fun b30 => ?_)
        · skip
          refine cv_aload_n C (pc' := 83) rfl (D 52 (82, .aload_n 0, 1) rfl) rfl (j := 2) rfl ?_
          refine cv_get C (pc' := 86) rfl (k0 := 0) (i := 7) (ci := 7) (by decide) rfl rfl (by decide) (o := some 5) rfl iw_X7 wfX7_22 (D 53 (83, .getfield 22, 3) rfl) rfl ?_
          refine cv_iconst C (pc' := 87) rfl (D 54 (86, .iconst 1, 1) rfl) (v := nI 1) (by decide) ?_
          refine cv_iload_n C (pc' := 88) rfl (D 55 (87, .iload_n 3, 1) rfl) rfl (j := 5) rfl ?_
          refine cv_iast C (pc' := 89) rfl (k0 := 5) (j := 1) (by decide) rfl rfl (by omega) (by decide) (D 56 (88, .iastore, 1) rfl) ?_
          refine cv_aload_n C (pc' := 90) rfl (D 57 (89, .aload_n 0, 1) rfl) rfl (j := 2) rfl ?_
          refine cv_get C (pc' := 93) rfl (k0 := 0) (i := 7) (ci := 7) (by decide) rfl rfl (by decide) (o := some 5) rfl iw_X7 wfX7_22 (D 58 (90, .getfield 22, 3) rfl) rfl ?_
          refine cv_iconst C (pc' := 94) rfl (D 59 (93, .iconst 2, 1) rfl) (v := nI 2) (by decide) ?_
          refine cv_iload C (pc' := 96) rfl (D 60 (94, .iload 4, 2) rfl) (j := 6) rfl ?_
          refine cv_iast C (pc' := 97) rfl (k0 := 5) (j := 2) (by decide) rfl rfl (by omega) (by decide) (D 61 (96, .iastore, 1) rfl) ?_
          refine cv_iload C (pc' := 99) rfl (D 62 (97, .iload 5, 2) rfl) (j := 1) rfl ?_
          exact cv_iret C Rt (cv_b_nar _) (D 63 (99, .ireturn, 1) rfl) ⟨congrArg (fun z => some (Value.int z)) (by rw [b30, show cv_al (fun h => cv_can L x d f (cv_clr (L 6 1) (h / 9)) (cv_clr (L 6 2) (h % 9))) 81 = false by cases e : cv_al (fun h => cv_can L x d f (cv_clr (L 6 1) (h / 9)) (cv_clr (L 6 2) (h % 9))) 81 with | false => rfl | true => rw [cv_al_t (fun j hj => cv_al_iff.mp e j (by omega))] at b30; cases b30]), cv_fg_fw hL hGτ⟩
        · skip
          refine cv_aload_n C (pc' := 34) rfl (D 19 (33, .aload_n 0, 1) rfl) rfl (j := 2) rfl ?_
          refine cv_get C (pc' := 37) rfl (k0 := 0) (i := 7) (ci := 7) (by decide) rfl rfl (by decide) (o := some 5) rfl iw_X7 wfX7_22 (D 20 (34, .getfield 22, 3) rfl) rfl ?_
          refine cv_iconst C (pc' := 38) rfl (D 21 (37, .iconst 1, 1) rfl) (v := nI 1) (by decide) ?_
          refine cv_iload_n C (pc' := 39) rfl (D 22 (38, .iload_n 3, 1) rfl) rfl (j := 5) rfl ?_
          refine cv_iconst C (pc' := 40) rfl (D 23 (39, .iconst 1, 1) rfl) (v := nI 1) (by decide) ?_
          refine cv_iload C (pc' := 42) rfl (D 24 (40, .iload 6, 2) rfl) (j := 0) rfl ?_
          refine cv_bipush C (pc' := 44) rfl (D 25 (42, .bipush 9, 2) rfl) (v := nI 9) (by decide) ?_
          refine cv_idivN C (pc' := 45) rfl (by omega) (by decide) (by decide) (D 26 (44, .idiv, 1) rfl) ?_
          refine cv_ishl1 C (pc' := 46) rfl (by omega) (D 27 (45, .ishl, 1) rfl) ?_
          refine cv_iconst C (pc' := 47) rfl (D 28 (46, .iconst (-1), 1) rfl) (v := -1) (by decide) ?_
          refine cv_ixor C (pc' := 48) rfl (D 29 (47, .ixor, 1) rfl) ?_
          refine cv_iand C (pc' := 49) rfl (D 30 (48, .iand, 1) rfl) ?_
          refine cv_top (w := nI (cv_clr (L 6 1) (k / 9))) (cv_clrN _ _) ?_
          refine cv_iast C (pc' := 50) rfl (k0 := 5) (j := 1) (by decide) rfl rfl (by omega) (by decide) (D 31 (49, .iastore, 1) rfl) ?_
          refine cv_aload_n C (pc' := 51) rfl (D 32 (50, .aload_n 0, 1) rfl) rfl (j := 2) rfl ?_
          refine cv_get C (pc' := 54) rfl (k0 := 0) (i := 7) (ci := 7) (by decide) rfl rfl (by decide) (o := some 5) rfl iw_X7 wfX7_22 (D 33 (51, .getfield 22, 3) rfl) rfl ?_
          refine cv_iconst C (pc' := 55) rfl (D 34 (54, .iconst 2, 1) rfl) (v := nI 2) (by decide) ?_
          refine cv_iload C (pc' := 57) rfl (D 35 (55, .iload 4, 2) rfl) (j := 6) rfl ?_
          refine cv_iconst C (pc' := 58) rfl (D 36 (57, .iconst 1, 1) rfl) (v := nI 1) (by decide) ?_
          refine cv_iload C (pc' := 60) rfl (D 37 (58, .iload 6, 2) rfl) (j := 0) rfl ?_
          refine cv_bipush C (pc' := 62) rfl (D 38 (60, .bipush 9, 2) rfl) (v := nI 9) (by decide) ?_
          refine cv_iremN C (pc' := 63) rfl (by omega) (by decide) (by decide) (D 39 (62, .irem, 1) rfl) ?_
          refine cv_ishl1 C (pc' := 64) rfl (by omega) (D 40 (63, .ishl, 1) rfl) ?_
          refine cv_iconst C (pc' := 65) rfl (D 41 (64, .iconst (-1), 1) rfl) (v := -1) (by decide) ?_
          refine cv_ixor C (pc' := 66) rfl (D 42 (65, .ixor, 1) rfl) ?_
          refine cv_iand C (pc' := 67) rfl (D 43 (66, .iand, 1) rfl) ?_
          refine cv_top (w := nI (cv_clr (L 6 2) (k % 9))) (cv_clrN _ _) ?_
          refine cv_iast C (pc' := 68) rfl (k0 := 5) (j := 2) (by decide) rfl rfl (by omega) (by decide) (D 44 (67, .iastore, 1) rfl) ?_
          refine cv_aload_n C (pc' := 69) rfl (D 45 (68, .aload_n 0, 1) rfl) rfl (j := 2) rfl ?_
          refine cv_iload_n C (pc' := 70) rfl (D 46 (69, .iload_n 1, 1) rfl) rfl (j := 3) rfl ?_
          refine cv_iload_n C (pc' := 71) rfl (D 47 (70, .iload_n 2, 1) rfl) rfl (j := 4) rfl ?_
          have hLs := cv_LM_fg hL hGτ (cv_clr (L 6 1) (k / 9)) (cv_clr (L 6 2) (k % 9))
          refine cv_callV C (pc' := 74) rfl (k0 := 0) (ci := 7) (As := [.int (nI d), .int (nI f)]) (rest := []) (idx := 182) (np := 2) (kX7_canBy (cv_lu (cv_lu L 6 1 (cv_clr (L 6 1) (k / 9))) 6 2 (cv_clr (L 6 2) (k % 9))) x d f (cv_u (cv_u τ 5 1 (nI (cv_clr (L 6 1) (k / 9)))) 5 2 (nI (cv_clr (L 6 2) (k % 9)))) hLs (cv_LB_12 hB (by have := hc1; omega) (by have := hc2; omega)) (by rw [cv_u_c (by decide), cv_u_c (by decide), hGτ.2.1 13 (by decide) (by decide)]; exact hM) (by omega) (by omega)) (by decide) rfl rfl rfl (by decide +kernel) rfl wmX7_182 wi_yX7_canBy ws_yX7_canBy wn_X7 wc_yX7_canBy (by decide) (by decide) (D 48 (71, .invokevirtual 182, 3) rfl) (Nat.le_of_ble_eq_true rfl) rfl (fun w71 u71 h71 => ?_)
          obtain ⟨e71, f71⟩ := h71
          rw [e71, cv_can_give, (cv_lu_12 L (cv_clr (L 6 1) (k / 9)) (cv_clr (L 6 2) (k % 9))).1, (cv_lu_12 L (cv_clr (L 6 1) (k / 9)) (cv_clr (L 6 2) (k % 9))).2]
          have hGu71 : cv_fg μ u71 := cv_fg_w (cv_fg_12 hGτ _ _) f71
          show cv_At X _ _ u71 74 _ [.int (cv_b (cv_can L x d f (cv_clr (L 6 1) (k / 9)) (cv_clr (L 6 2) (k % 9))))]
          refine cv_istore C (pc' := 76) rfl (D 49 (74, .istore 5, 2) rfl) (by decide) (lv' := [(5, .int (cv_b (cv_can L x d f (cv_clr (L 6 1) (k / 9)) (cv_clr (L 6 2) (k % 9))))), (6, .int (nI k)), (0, .ref 0), (1, .int (nI d)), (2, .int (nI f)), (3, .int (nI (L 6 1))), (4, .int (nI (L 6 2)))]) rfl ?_
          refine cv_iincN C (pc' := 79) rfl (D 50 (76, .iinc 6 1, 3) rfl) (j := 1) rfl (by decide) (lv' := [(6, .int (nI (k + 1))), (5, .int (cv_b (cv_can L x d f (cv_clr (L 6 1) (k / 9)) (cv_clr (L 6 2) (k % 9))))), (0, .ref 0), (1, .int (nI d)), (2, .int (nI f)), (3, .int (nI (L 6 1))), (4, .int (nI (L 6 2)))]) rfl ?_
          refine cv_goto C (tgt := 21) (D 51 (79, .goto (-58), 3) rfl) (by decide) ?_
          have hw9 : cv_b (cv_can L x d f (cv_clr (L 6 1) (k / 9)) (cv_clr (L 6 2) (k % 9))) = cv_b (cv_al (fun h => cv_can L x d f (cv_clr (L 6 1) (h / 9)) (cv_clr (L 6 2) (h % 9))) (k + 1)) := by rw [cv_al_s, b30, Bool.true_and]
          rw [hw9]
          exact ih21 (k + 1) u71 (by omega) hGu71
  exact LP21 81 0 μ (by decide) (cv_fg_r μ)

set_option maxHeartbeats 4000000 in
set_option maxRecDepth 100000 in
theorem pX7_safe (tr : Int32) (ft : Nat) (sl : Nat → Option (Nat × Nat)) (sc : Nat → Nat → Int32) (L : cv_L) (rc : Nat) (rd : Nat → Nat) (rn : Nat → Option Nat) (x : Int32) (μ : cv_St) (hR : cv_RM tr ft sl sc L rc rd rn μ) (hB : cv_LB L) (hDB : cv_DB rc rd rn) : cv_Ct yX7_safe cX7_safe 4 (some .int) 7 0 0 17 cv_shM [.ref 0, .int x] μ (fun v u => v = some (.int (cv_a_safe L x)) ∧ cv_RM tr ft sl sc L rc rd rn u) := by
  refine cv_enter (own := RX7) (by decide) rfl (Nat.le_of_ble_eq_true rfl) ?_
  intro X a C Rt hRm
  have D := @cv_dec _ _ dkX7_safe
  obtain ⟨hTr, hFt, hSh, hL, hM, hD⟩ := id hR
  have hn6 := hB.1
  have hrc := hDB.1
  show cv_At X _ _ μ 0 [(0, .ref 0), (1, .int x)] []
  refine cv_iload_n C (pc' := 1) rfl (D 0 (0, .iload_n 1, 1) rfl) rfl (j := 1) rfl ?_
  refine cv_callS C (pc' := 4) rfl (As := [.int x]) (rest := []) (idx := 124) (np := 1) (kX7_isDay x μ) (by decide +kernel) rfl wmX7_124 wt_yX7_isDay wn_X7 wc_yX7_isDay (by decide) (by decide) (D 1 (1, .invokestatic 124, 3) rfl) (Nat.le_of_ble_eq_true rfl) rfl (fun w9 u9 h9 => ?_)
  rw [h9.1, h9.2]
  show cv_At X _ _ μ 4 _ [.int (cv_b (cv_in x 8))]
  refine cv_if_neB C (pc' := 7) rfl (tgt := 10) (D 2 (4, .ifCond .ne 6, 3) rfl) (by decide) (fun b4 => ?_) (fun b4 => ?_)
  · skip
    obtain ⟨j, hj, rfl⟩ := cv_in_of b4 (by omega)
    refine cv_aload_n C (pc' := 11) rfl (D 5 (10, .aload_n 0, 1) rfl) rfl (j := 0) rfl ?_
    refine cv_get C (pc' := 14) rfl (k0 := 0) (i := 5) (ci := 7) (by decide) rfl rfl (by decide) (o := none) rfl iw_X7 wfX7_71 (D 6 (11, .getfield 71, 3) rfl) (v := .int (nI (L 7 0))) (congrArg Value.int hL.1) ?_
    refine cv_if_neN C (pc' := 17) rfl (by omega) (tgt := 20) (D 7 (14, .ifCond .ne 6, 3) rfl) (by decide) (fun b14 => ?_) (fun b14 => ?_)
    · skip
      refine cv_bipush C (pc' := 22) rfl (D 10 (20, .bipush (-9), 2) rfl) (v := -9) (by decide) ?_
      refine cv_istore_n C (pc' := 23) rfl (D 11 (22, .istore_n 2, 1) rfl) rfl (by decide) (lv' := [(2, .int (-9)), (0, .ref 0), (1, .int (nI j))]) rfl ?_
      refine cv_iconst C (pc' := 24) rfl (D 12 (23, .iconst 0, 1) rfl) (v := nI 0) (by decide) ?_
      refine cv_istore_n C (pc' := 25) rfl (D 13 (24, .istore_n 3, 1) rfl) rfl (by decide) (lv' := [(3, .int (nI 0)), (2, .int (-9)), (0, .ref 0), (1, .int (nI j))]) rfl ?_
      refine cv_pick [0, 1, 2, 3] (lv' := [(3, .int (nI 0)), (2, .int (cv_o (cv_la (fun d => cv_al (fun h => cv_can L (-9) d j (cv_clr (L 6 1) (h / 9)) (cv_clr (L 6 2) (h % 9))) 81) 0))), (0, .ref 0), (1, .int (nI j))]) rfl ?_
      have LP25 : ∀ (r : Nat) (k : Nat) (τ : cv_St), (k + r = j + 1) → (cv_fw μ τ) → cv_At X (17, cv_shM, 0, 0, a) 4 τ 25 [(3, .int (nI k)), (2, .int (cv_o (cv_la (fun d => cv_al (fun h => cv_can L (-9) d j (cv_clr (L 6 1) (h / 9)) (cv_clr (L 6 2) (h % 9))) 81) k))), (0, .ref 0), (1, .int (nI j))] [] := by
        intro r
        induction r with
        | zero =>
          intro k τ hr hFτ
          refine cv_iload_n C (pc' := 26) rfl (D 14 (25, .iload_n 3, 1) rfl) rfl (j := 0) rfl ?_
          refine cv_iload_n C (pc' := 27) rfl (D 15 (26, .iload_n 1, 1) rfl) rfl (j := 3) rfl ?_
          refine cv_icmp_gtN C (pc' := 30) rfl (by omega) (by omega) (tgt := 51) (D 16 (27, .if_icmp .gt 24, 3) rfl) (by decide) (fun b27 => ?_) (fun b27 => ?_)
          · skip
            refine cv_iload_n C (pc' := 52) rfl (D 28 (51, .iload_n 2, 1) rfl) rfl (j := 1) rfl ?_
            exact cv_iret C Rt rfl (D 29 (52, .ireturn, 1) rfl) ⟨congrArg (fun z => some (Value.int z)) (by unfold cv_a_safe cv_day; rw [if_pos b4, if_pos (by omega), cv_nt, nI_clamp (by omega)]; rw [show k = j + 1 by omega, ← cv_la_to (P := (fun d => cv_al (fun h => cv_can L (-9) d j (cv_clr (L 6 1) (h / 9)) (cv_clr (L 6 2) (h % 9))) 81)) (fun d hd h => cv_al_f (k := 0) (by decide) (cv_can_ge hB hd h)) 8 (Nat.le_refl _) (by omega)]; exact congrArg cv_o (cv_la_cg 8 (fun d _ => (cv_safe_81 hB (hB.2.2.2 1 (by decide)) (hB.2.2.2 2 (by decide))).trans (congrArg (fun q => cv_al q 64) (funext (fun h => cv_can_9 hB d j _ _)))))), cv_RM_k (cv_fw_m hFτ) hR⟩
          · skip
            omega
        | succ r ih25 =>
          intro k τ hr hFτ
          have hLτ := cv_LM_w hFτ hL
          have hMτ : τ 0 13 = -9 := by rw [hFτ.2 13 (by decide) (by decide)]; exact hM
          refine cv_iload_n C (pc' := 26) rfl (D 14 (25, .iload_n 3, 1) rfl) rfl (j := 0) rfl ?_
          refine cv_iload_n C (pc' := 27) rfl (D 15 (26, .iload_n 1, 1) rfl) rfl (j := 3) rfl ?_
          refine cv_icmp_gtN C (pc' := 30) rfl (by omega) (by omega) (tgt := 51) (D 16 (27, .if_icmp .gt 24, 3) rfl) (by decide) (fun b27 => ?_) (fun b27 => ?_)
          · skip
            omega
          · skip
            refine cv_aload_n C (pc' := 31) rfl (D 17 (30, .aload_n 0, 1) rfl) rfl (j := 2) rfl ?_
            refine cv_iload_n C (pc' := 32) rfl (D 18 (31, .iload_n 3, 1) rfl) rfl (j := 0) rfl ?_
            refine cv_iload_n C (pc' := 33) rfl (D 19 (32, .iload_n 1, 1) rfl) rfl (j := 3) rfl ?_
            refine cv_callV C (pc' := 36) rfl (k0 := 0) (ci := 7) (As := [.int (nI k), .int (nI j)]) (rest := []) (idx := 185) (np := 2) (kX7_isSafe L (-9) k j τ hLτ hB hMτ (by omega) (by omega)) (by decide) rfl rfl rfl (by decide +kernel) rfl wmX7_185 wi_yX7_isSafe ws_yX7_isSafe wn_X7 wc_yX7_isSafe (by decide) (by decide) (D 20 (33, .invokevirtual 185, 3) rfl) (Nat.le_of_ble_eq_true rfl) rfl (fun w33 u33 h33 => ?_)
            obtain ⟨e33, f33⟩ := h33
            rw [e33]
            have hFu33 : cv_fw μ u33 := cv_fw_t hFτ f33
            have hLu33 := cv_LM_w hFu33 hL
            show cv_At X _ _ u33 36 _ [.int (cv_b (cv_al (fun h => cv_can L (-9) k j (cv_clr (L 6 1) (h / 9)) (cv_clr (L 6 2) (h % 9))) 81))]
            refine cv_if_eqB C (pc' := 39) rfl (tgt := 43) (D 21 (36, .ifCond .eq 7, 3) rfl) (by decide) (fun b36 => ?_) (fun b36 => ?_)
            · skip
              refine cv_iload_n C (pc' := 44) rfl (D 24 (43, .iload_n 2, 1) rfl) rfl (j := 1) rfl ?_
              refine cv_istore_n C (pc' := 45) rfl (D 25 (44, .istore_n 2, 1) rfl) rfl (by decide) (lv' := [(2, .int (cv_o (cv_la (fun d => cv_al (fun h => cv_can L (-9) d j (cv_clr (L 6 1) (h / 9)) (cv_clr (L 6 2) (h % 9))) 81) k))), (3, .int (nI k)), (0, .ref 0), (1, .int (nI j))]) rfl ?_
              refine cv_iincN C (pc' := 48) rfl (D 26 (45, .iinc 3 1, 3) rfl) (j := 1) rfl (by decide) (lv' := [(3, .int (nI (k + 1))), (2, .int (cv_o (cv_la (fun d => cv_al (fun h => cv_can L (-9) d j (cv_clr (L 6 1) (h / 9)) (cv_clr (L 6 2) (h % 9))) 81) k))), (0, .ref 0), (1, .int (nI j))]) rfl ?_
              refine cv_goto C (tgt := 25) (D 27 (48, .goto (-23), 3) rfl) (by decide) ?_
              have hw9 : cv_o (cv_la (fun d => cv_al (fun h => cv_can L (-9) d j (cv_clr (L 6 1) (h / 9)) (cv_clr (L 6 2) (h % 9))) 81) k) = cv_o (cv_la (fun d => cv_al (fun h => cv_can L (-9) d j (cv_clr (L 6 1) (h / 9)) (cv_clr (L 6 2) (h % 9))) 81) (k + 1)) := by simp only [cv_la]; rw [if_neg (by simp [b36])]
              rw [hw9]
              exact ih25 (k + 1) u33 (by omega) hFu33
            · skip
              refine cv_iload_n C (pc' := 40) rfl (D 22 (39, .iload_n 3, 1) rfl) rfl (j := 0) rfl ?_
              refine cv_goto C (tgt := 44) (D 23 (40, .goto 4, 3) rfl) (by decide) ?_
              refine cv_istore_n C (pc' := 45) rfl (D 25 (44, .istore_n 2, 1) rfl) rfl (by decide) (lv' := [(2, .int (nI k)), (3, .int (nI k)), (0, .ref 0), (1, .int (nI j))]) rfl ?_
              refine cv_iincN C (pc' := 48) rfl (D 26 (45, .iinc 3 1, 3) rfl) (j := 1) rfl (by decide) (lv' := [(3, .int (nI (k + 1))), (2, .int (nI k)), (0, .ref 0), (1, .int (nI j))]) rfl ?_
              refine cv_goto C (tgt := 25) (D 27 (48, .goto (-23), 3) rfl) (by decide) ?_
              have hw9 : nI k = cv_o (cv_la (fun d => cv_al (fun h => cv_can L (-9) d j (cv_clr (L 6 1) (h / 9)) (cv_clr (L 6 2) (h % 9))) 81) (k + 1)) := by simp only [cv_la]; rw [if_pos b36]; rfl
              rw [hw9]
              exact ih25 (k + 1) u33 (by omega) hFu33
      exact LP25 (j + 1) 0 μ (by omega) (cv_fw_r μ)
    · skip
      refine cv_bipush C (pc' := 19) rfl (D 8 (17, .bipush (-3), 2) rfl) (v := -3) (by decide) ?_
      exact cv_iret C Rt rfl (D 9 (19, .ireturn, 1) rfl) ⟨congrArg (fun z => some (Value.int z)) (by unfold cv_a_safe cv_day; rw [if_pos b4, if_neg (by omega)]), hR⟩
  · skip
    refine cv_bipush C (pc' := 9) rfl (D 3 (7, .bipush (-2), 2) rfl) (v := -2) (by decide) ?_
    exact cv_iret C Rt rfl (D 4 (9, .ireturn, 1) rfl) ⟨congrArg (fun z => some (Value.int z)) (by unfold cv_a_safe cv_day; rw [if_neg (by simp [b4])]), hR⟩

