/-- but for the land and how many readings there are, as it was -/
def cv_fl (μ u : cv_St) : Prop := (∀ k, k ≠ 0 → ¬ (4 ≤ k ∧ k ≤ 10) → u k = μ k) ∧ ∀ i, i ≠ 5 → i ≠ 26 → u 0 i = μ 0 i
theorem cv_fl_r (μ : cv_St) : cv_fl μ μ := ⟨fun _ _ _ => rfl, fun _ _ _ => rfl⟩
theorem cv_fl_0 {i : Nat} {v : Int32} {μ u : cv_St} (h : cv_fl μ u) (hi : i = 5 ∨ i = 26) : cv_fl μ (cv_u u 0 i v) := ⟨fun k a b => by rw [cv_u_c a]; exact h.1 k a b, fun j a b => by rw [cv_u_i (by omega)]; exact h.2 j a b⟩
theorem cv_fl_k {c i : Nat} {v : Int32} {μ u : cv_St} (h : cv_fl μ u) (hc : 4 ≤ c ∧ c ≤ 10) : cv_fl μ (cv_u u c i v) := ⟨fun k a b => by rw [cv_u_c (by omega)]; exact h.1 k a b, fun j a b => by rw [cv_u_c (by omega)]; exact h.2 j a b⟩
theorem cv_pas {p : Nat} {μ τ : cv_St} {L : cv_L} (h : ∀ q, q < p → ∀ i, i < 5 → τ (6 + i) q = nI (L i q)) : ∀ q, q < p + 1 → ∀ i, i < 5 → cv_u (cv_u (cv_u (cv_u (cv_u τ 6 p (nI (L 0 p))) 7 p (nI (L 1 p))) 8 p (nI (L 2 p))) 9 p (nI (L 3 p))) 10 p (nI (L 4 p)) (6 + i) q = nI (L i q) := by
  intro q hq i hi
  simp only [cv_u_at]
  by_cases e : q = p
  · subst e
    match i, hi with
    | 0, _ => simp
    | 1, _ => simp
    | 2, _ => simp
    | 3, _ => simp
    | 4, _ => simp
  · simp only [e, and_false, if_false]
    exact h q (by omega) i hi
set_option maxHeartbeats 4000000 in
set_option maxRecDepth 100000 in
theorem kX7_takeLand (L : cv_L) (μ : cv_St) (hB : cv_LB L) (hR : cv_RL L μ) : cv_Ct yX7_takeLand cX7_takeLand 2 none 0 0 0 17 cv_shM [.ref 0] μ (fun w u => w = none ∧ cv_LM L u ∧ u 0 26 = nI 0 ∧ cv_fl μ u) := by
  refine cv_enter (own := RX7) (by decide) rfl (Nat.le_of_ble_eq_true rfl) ?_
  intro X a C Rt hRm
  have D := @cv_dec _ _ dkX7_takeLand
  have hn6 := hB.1
  show cv_At X _ _ μ 0 [(0, .ref 0)] []
  refine cv_iconst C (pc' := 1) rfl (D 0 (0, .iconst 0, 1) rfl) (v := nI 0) (by decide) ?_
  refine cv_istore_n C (pc' := 2) rfl (D 1 (1, .istore_n 1, 1) rfl) rfl (by decide) (lv' := [(1, .int (nI 0)), (0, .ref 0)]) rfl ?_
  have LP2 : ∀ (r : Nat) (d : Nat) (τ : cv_St), (d + r = 8) → (∀ i, i < d → τ 4 i = nI (L 5 i)) → (cv_fl μ τ) → cv_At X (17, cv_shM, 0, 0, a) 2 τ 2 [(1, .int (nI d)), (0, .ref 0)] [] := by
    intro r
    induction r with
    | zero =>
      intro d τ hr hsn hFτ
      have hd8 : d = 8 := by omega
      refine cv_iload_n C (pc' := 3) rfl (D 2 (2, .iload_n 1, 1) rfl) rfl (j := 0) rfl ?_
      refine cv_bipush C (pc' := 5) rfl (D 3 (3, .bipush 8, 2) rfl) (v := nI 8) (by decide) ?_
      refine cv_icmp_geN C (pc' := 8) rfl (by omega) (by omega) (tgt := 26) (D 4 (5, .if_icmp .ge 21, 3) rfl) (by decide) (fun b5 => ?_) (fun b5 => ?_)
      · skip
        refine cv_iconst C (pc' := 27) rfl (D 15 (26, .iconst 0, 1) rfl) (v := nI 0) (by decide) ?_
        refine cv_istore_n C (pc' := 28) rfl (D 16 (27, .istore_n 1, 1) rfl) rfl (by decide) (lv' := [(1, .int (nI 0)), (0, .ref 0)]) rfl ?_
        have LP28 : ∀ (r : Nat) (v : Nat) (τ : cv_St), (v + r = 3) → (∀ i, i < 8 → τ 4 i = nI (L 5 i)) → (∀ i, i < v → τ 5 i = nI (L 6 i)) → (cv_fl μ τ) → cv_At X (17, cv_shM, 0, 0, a) 2 τ 28 [(1, .int (nI v)), (0, .ref 0)] [] := by
          intro r
          induction r with
          | zero =>
            intro v τ hr hsn hgs hFτ
            have hv3 : v = 3 := by omega
            refine cv_iload_n C (pc' := 29) rfl (D 17 (28, .iload_n 1, 1) rfl) rfl (j := 0) rfl ?_
            refine cv_iconst C (pc' := 30) rfl (D 18 (29, .iconst 3, 1) rfl) (v := nI 3) (by decide) ?_
            refine cv_icmp_geN C (pc' := 33) rfl (by omega) (by omega) (tgt := 51) (D 19 (30, .if_icmp .ge 21, 3) rfl) (by decide) (fun b30 => ?_) (fun b30 => ?_)
            · skip
              refine cv_aload_n C (pc' := 52) rfl (D 30 (51, .aload_n 0, 1) rfl) rfl (j := 1) rfl ?_
              refine cv_aload_n C (pc' := 53) rfl (D 31 (52, .aload_n 0, 1) rfl) rfl (j := 1) rfl ?_
              refine cv_get C (pc' := 56) rfl (k0 := 0) (i := 15) (ci := 7) (by decide) rfl rfl (by decide) (o := none) rfl iw_X7 wfX7_102 (D 32 (53, .getfield 102, 3) rfl) (v := .int (nI (L 7 0))) (congrArg Value.int ((hFτ.2 15 (by decide) (by decide)).trans hR.2.2.1)) ?_
              refine cv_put C (pc' := 59) rfl (k0 := 0) (i := 5) (ci := 7) (by decide) rfl rfl (by decide) rfl iw_X7 tyX7 tyX7_ok nmX7 wfX7_71 rfl rfl rfl (D 33 (56, .putfield 71, 3) rfl) ?_
              refine cv_iconst C (pc' := 60) rfl (D 34 (59, .iconst 0, 1) rfl) (v := nI 0) (by decide) ?_
              refine cv_istore_n C (pc' := 61) rfl (D 35 (60, .istore_n 1, 1) rfl) rfl (by decide) (lv' := [(1, .int (nI 0)), (0, .ref 0)]) rfl ?_
              have LP61 : ∀ (r : Nat) (p : Nat) (τ : cv_St), (p + r = L 7 0) → (∀ i, i < 8 → τ 4 i = nI (L 5 i)) → (∀ i, i < 3 → τ 5 i = nI (L 6 i)) → (τ 0 5 = nI (L 7 0)) → (∀ q, q < p → ∀ i, i < 5 → τ (6 + i) q = nI (L i q)) → (cv_fl μ τ) → cv_At X (17, cv_shM, 0, 0, a) 2 τ 61 [(1, .int (nI p)), (0, .ref 0)] [] := by
                intro r
                induction r with
                | zero =>
                  intro p τ hr hsn hgs h5 hps hFτ
                  have hp7 : p = L 7 0 := by omega
                  refine cv_iload_n C (pc' := 62) rfl (D 36 (61, .iload_n 1, 1) rfl) rfl (j := 0) rfl ?_
                  refine cv_aload_n C (pc' := 63) rfl (D 37 (62, .aload_n 0, 1) rfl) rfl (j := 1) rfl ?_
                  refine cv_get C (pc' := 66) rfl (k0 := 0) (i := 5) (ci := 7) (by decide) rfl rfl (by decide) (o := none) rfl iw_X7 wfX7_71 (D 38 (63, .getfield 71, 3) rfl) (v := .int (nI (L 7 0))) (congrArg Value.int h5) ?_
                  refine cv_icmp_geN C (pc' := 69) rfl (by omega) (by omega) (tgt := 153) (D 39 (66, .if_icmp .ge 87, 3) rfl) (by decide) (fun b66 => ?_) (fun b66 => ?_)
                  · skip
                    refine cv_aload_n C (pc' := 154) rfl (D 100 (153, .aload_n 0, 1) rfl) rfl (j := 1) rfl ?_
                    refine cv_iconst C (pc' := 155) rfl (D 101 (154, .iconst 0, 1) rfl) (v := nI 0) (by decide) ?_
                    refine cv_put C (pc' := 158) rfl (k0 := 0) (i := 26) (ci := 7) (by decide) rfl rfl (by decide) rfl iw_X7 tyX7 tyX7_ok nmX7 wfX7_105 rfl rfl rfl (D 102 (155, .putfield 105, 3) rfl) ?_
                    exact cv_vret C Rt (D 103 (158, .return_, 1) rfl) ⟨rfl, ⟨(cv_u_i (by decide)).trans h5, fun d hd => by rw [cv_u_c (by decide)]; exact hsn d hd, fun w hw => by rw [cv_u_c (by decide)]; exact hgs w hw, fun q hq i hi => by rw [cv_u_c (by omega)]; exact hps q (by omega) i hi⟩, cv_u_s, (cv_fl_0 hFτ (by decide))⟩
                  · skip
                    omega
                | succ r ih61 =>
                  intro p τ hr hsn hgs h5 hps hFτ
                  have hp : p < L 7 0 := by omega
                  refine cv_iload_n C (pc' := 62) rfl (D 36 (61, .iload_n 1, 1) rfl) rfl (j := 0) rfl ?_
                  refine cv_aload_n C (pc' := 63) rfl (D 37 (62, .aload_n 0, 1) rfl) rfl (j := 1) rfl ?_
                  refine cv_get C (pc' := 66) rfl (k0 := 0) (i := 5) (ci := 7) (by decide) rfl rfl (by decide) (o := none) rfl iw_X7 wfX7_71 (D 38 (63, .getfield 71, 3) rfl) (v := .int (nI (L 7 0))) (congrArg Value.int h5) ?_
                  refine cv_icmp_geN C (pc' := 69) rfl (by omega) (by omega) (tgt := 153) (D 39 (66, .if_icmp .ge 87, 3) rfl) (by decide) (fun b66 => ?_) (fun b66 => ?_)
                  · skip
                    omega
                  · skip
                    refine cv_aload_n C (pc' := 70) rfl (D 40 (69, .aload_n 0, 1) rfl) rfl (j := 1) rfl ?_
                    refine cv_get C (pc' := 73) rfl (k0 := 0) (i := 8) (ci := 7) (by decide) rfl rfl (by decide) (o := some 6) rfl iw_X7 wfX7_25 (D 41 (70, .getfield 25, 3) rfl) rfl ?_
                    refine cv_iload_n C (pc' := 74) rfl (D 42 (73, .iload_n 1, 1) rfl) rfl (j := 0) rfl ?_
                    refine cv_aload_n C (pc' := 75) rfl (D 43 (74, .aload_n 0, 1) rfl) rfl (j := 1) rfl ?_
                    refine cv_get C (pc' := 78) rfl (k0 := 0) (i := 18) (ci := 7) (by decide) rfl rfl (by decide) (o := some 13) rfl iw_X7 wfX7_50 (D 44 (75, .getfield 50, 3) rfl) rfl ?_
                    refine cv_iconst C (pc' := 79) rfl (D 45 (78, .iconst 5, 1) rfl) (v := nI 5) (by decide) ?_
                    refine cv_iload_n C (pc' := 80) rfl (D 46 (79, .iload_n 1, 1) rfl) rfl (j := 0) rfl ?_
                    refine cv_imulN C (pc' := 81) rfl (D 47 (80, .imul, 1) rfl) ?_
                    refine cv_iald C (pc' := 82) rfl (k0 := 13) (j := 5 * p) (by decide) rfl rfl (by omega) (by decide) (D 48 (81, .iaload, 1) rfl) (v := nI (L 0 p)) ((congrFun (hFτ.1 13 (by decide) (by decide)) _).trans (hR.2.2.2 p hp 0 (by decide))) ?_
                    refine cv_iast C (pc' := 83) rfl (k0 := 6) (j := p) (by decide) rfl rfl (by omega) (by decide) (D 49 (82, .iastore, 1) rfl) ?_
                    refine cv_aload_n C (pc' := 84) rfl (D 50 (83, .aload_n 0, 1) rfl) rfl (j := 1) rfl ?_
                    refine cv_get C (pc' := 87) rfl (k0 := 0) (i := 9) (ci := 7) (by decide) rfl rfl (by decide) (o := some 7) rfl iw_X7 wfX7_28 (D 51 (84, .getfield 28, 3) rfl) rfl ?_
                    refine cv_iload_n C (pc' := 88) rfl (D 52 (87, .iload_n 1, 1) rfl) rfl (j := 0) rfl ?_
                    refine cv_aload_n C (pc' := 89) rfl (D 53 (88, .aload_n 0, 1) rfl) rfl (j := 1) rfl ?_
                    refine cv_get C (pc' := 92) rfl (k0 := 0) (i := 18) (ci := 7) (by decide) rfl rfl (by decide) (o := some 13) rfl iw_X7 wfX7_50 (D 54 (89, .getfield 50, 3) rfl) rfl ?_
                    refine cv_iconst C (pc' := 93) rfl (D 55 (92, .iconst 5, 1) rfl) (v := nI 5) (by decide) ?_
                    refine cv_iload_n C (pc' := 94) rfl (D 56 (93, .iload_n 1, 1) rfl) rfl (j := 0) rfl ?_
                    refine cv_imulN C (pc' := 95) rfl (D 57 (94, .imul, 1) rfl) ?_
                    refine cv_iconst C (pc' := 96) rfl (D 58 (95, .iconst 1, 1) rfl) (v := nI 1) (by decide) ?_
                    refine cv_iaddN C (pc' := 97) rfl (D 59 (96, .iadd, 1) rfl) ?_
                    refine cv_iald C (pc' := 98) rfl (k0 := 13) (j := (5 * p) + 1) (by decide) rfl rfl (by omega) (by decide) (D 60 (97, .iaload, 1) rfl) (v := nI (L 1 p)) ((congrFun (cv_u_c (by omega)) _).trans ((congrFun (hFτ.1 13 (by decide) (by decide)) _).trans (hR.2.2.2 p hp 1 (by decide)))) ?_
                    refine cv_iast C (pc' := 99) rfl (k0 := 7) (j := p) (by decide) rfl rfl (by omega) (by decide) (D 61 (98, .iastore, 1) rfl) ?_
                    refine cv_aload_n C (pc' := 100) rfl (D 62 (99, .aload_n 0, 1) rfl) rfl (j := 1) rfl ?_
                    refine cv_get C (pc' := 103) rfl (k0 := 0) (i := 10) (ci := 7) (by decide) rfl rfl (by decide) (o := some 8) rfl iw_X7 wfX7_31 (D 63 (100, .getfield 31, 3) rfl) rfl ?_
                    refine cv_iload_n C (pc' := 104) rfl (D 64 (103, .iload_n 1, 1) rfl) rfl (j := 0) rfl ?_
                    refine cv_aload_n C (pc' := 105) rfl (D 65 (104, .aload_n 0, 1) rfl) rfl (j := 1) rfl ?_
                    refine cv_get C (pc' := 108) rfl (k0 := 0) (i := 18) (ci := 7) (by decide) rfl rfl (by decide) (o := some 13) rfl iw_X7 wfX7_50 (D 66 (105, .getfield 50, 3) rfl) rfl ?_
                    refine cv_iconst C (pc' := 109) rfl (D 67 (108, .iconst 5, 1) rfl) (v := nI 5) (by decide) ?_
                    refine cv_iload_n C (pc' := 110) rfl (D 68 (109, .iload_n 1, 1) rfl) rfl (j := 0) rfl ?_
                    refine cv_imulN C (pc' := 111) rfl (D 69 (110, .imul, 1) rfl) ?_
                    refine cv_iconst C (pc' := 112) rfl (D 70 (111, .iconst 2, 1) rfl) (v := nI 2) (by decide) ?_
                    refine cv_iaddN C (pc' := 113) rfl (D 71 (112, .iadd, 1) rfl) ?_
                    refine cv_iald C (pc' := 114) rfl (k0 := 13) (j := (5 * p) + 2) (by decide) rfl rfl (by omega) (by decide) (D 72 (113, .iaload, 1) rfl) (v := nI (L 2 p)) ((congrFun (cv_u_c (by omega)) _).trans ((congrFun (cv_u_c (by omega)) _).trans ((congrFun (hFτ.1 13 (by decide) (by decide)) _).trans (hR.2.2.2 p hp 2 (by decide))))) ?_
                    refine cv_iast C (pc' := 115) rfl (k0 := 8) (j := p) (by decide) rfl rfl (by omega) (by decide) (D 73 (114, .iastore, 1) rfl) ?_
                    refine cv_aload_n C (pc' := 116) rfl (D 74 (115, .aload_n 0, 1) rfl) rfl (j := 1) rfl ?_
                    refine cv_get C (pc' := 119) rfl (k0 := 0) (i := 11) (ci := 7) (by decide) rfl rfl (by decide) (o := some 9) rfl iw_X7 wfX7_34 (D 75 (116, .getfield 34, 3) rfl) rfl ?_
                    refine cv_iload_n C (pc' := 120) rfl (D 76 (119, .iload_n 1, 1) rfl) rfl (j := 0) rfl ?_
                    refine cv_aload_n C (pc' := 121) rfl (D 77 (120, .aload_n 0, 1) rfl) rfl (j := 1) rfl ?_
                    refine cv_get C (pc' := 124) rfl (k0 := 0) (i := 18) (ci := 7) (by decide) rfl rfl (by decide) (o := some 13) rfl iw_X7 wfX7_50 (D 78 (121, .getfield 50, 3) rfl) rfl ?_
                    refine cv_iconst C (pc' := 125) rfl (D 79 (124, .iconst 5, 1) rfl) (v := nI 5) (by decide) ?_
                    refine cv_iload_n C (pc' := 126) rfl (D 80 (125, .iload_n 1, 1) rfl) rfl (j := 0) rfl ?_
                    refine cv_imulN C (pc' := 127) rfl (D 81 (126, .imul, 1) rfl) ?_
                    refine cv_iconst C (pc' := 128) rfl (D 82 (127, .iconst 3, 1) rfl) (v := nI 3) (by decide) ?_
                    refine cv_iaddN C (pc' := 129) rfl (D 83 (128, .iadd, 1) rfl) ?_
                    refine cv_iald C (pc' := 130) rfl (k0 := 13) (j := (5 * p) + 3) (by decide) rfl rfl (by omega) (by decide) (D 84 (129, .iaload, 1) rfl) (v := nI (L 3 p)) ((congrFun (cv_u_c (by omega)) _).trans ((congrFun (cv_u_c (by omega)) _).trans ((congrFun (cv_u_c (by omega)) _).trans ((congrFun (hFτ.1 13 (by decide) (by decide)) _).trans (hR.2.2.2 p hp 3 (by decide)))))) ?_
                    refine cv_iast C (pc' := 131) rfl (k0 := 9) (j := p) (by decide) rfl rfl (by omega) (by decide) (D 85 (130, .iastore, 1) rfl) ?_
                    refine cv_aload_n C (pc' := 132) rfl (D 86 (131, .aload_n 0, 1) rfl) rfl (j := 1) rfl ?_
                    refine cv_get C (pc' := 135) rfl (k0 := 0) (i := 12) (ci := 7) (by decide) rfl rfl (by decide) (o := some 10) rfl iw_X7 wfX7_37 (D 87 (132, .getfield 37, 3) rfl) rfl ?_
                    refine cv_iload_n C (pc' := 136) rfl (D 88 (135, .iload_n 1, 1) rfl) rfl (j := 0) rfl ?_
                    refine cv_aload_n C (pc' := 137) rfl (D 89 (136, .aload_n 0, 1) rfl) rfl (j := 1) rfl ?_
                    refine cv_get C (pc' := 140) rfl (k0 := 0) (i := 18) (ci := 7) (by decide) rfl rfl (by decide) (o := some 13) rfl iw_X7 wfX7_50 (D 90 (137, .getfield 50, 3) rfl) rfl ?_
                    refine cv_iconst C (pc' := 141) rfl (D 91 (140, .iconst 5, 1) rfl) (v := nI 5) (by decide) ?_
                    refine cv_iload_n C (pc' := 142) rfl (D 92 (141, .iload_n 1, 1) rfl) rfl (j := 0) rfl ?_
                    refine cv_imulN C (pc' := 143) rfl (D 93 (142, .imul, 1) rfl) ?_
                    refine cv_iconst C (pc' := 144) rfl (D 94 (143, .iconst 4, 1) rfl) (v := nI 4) (by decide) ?_
                    refine cv_iaddN C (pc' := 145) rfl (D 95 (144, .iadd, 1) rfl) ?_
                    refine cv_iald C (pc' := 146) rfl (k0 := 13) (j := (5 * p) + 4) (by decide) rfl rfl (by omega) (by decide) (D 96 (145, .iaload, 1) rfl) (v := nI (L 4 p)) ((congrFun (cv_u_c (by omega)) _).trans ((congrFun (cv_u_c (by omega)) _).trans ((congrFun (cv_u_c (by omega)) _).trans ((congrFun (cv_u_c (by omega)) _).trans ((congrFun (hFτ.1 13 (by decide) (by decide)) _).trans (hR.2.2.2 p hp 4 (by decide))))))) ?_
                    refine cv_iast C (pc' := 147) rfl (k0 := 10) (j := p) (by decide) rfl rfl (by omega) (by decide) (D 97 (146, .iastore, 1) rfl) ?_
                    refine cv_iincN C (pc' := 150) rfl (D 98 (147, .iinc 1 1, 3) rfl) (j := 0) rfl (by decide) (lv' := [(1, .int (nI (p + 1))), (0, .ref 0)]) rfl ?_
                    refine cv_goto C (tgt := 61) (D 99 (150, .goto (-89), 3) rfl) (by decide) ?_
                    exact ih61 (p + 1) (cv_u (cv_u (cv_u (cv_u (cv_u τ 6 p (nI (L 0 p))) 7 p (nI (L 1 p))) 8 p (nI (L 2 p))) 9 p (nI (L 3 p))) 10 p (nI (L 4 p))) (by omega) (fun q hq => by simp only [cv_u_at]; exact hsn q hq) (fun q hq => by simp only [cv_u_at]; exact hgs q hq) (by simp only [cv_u_at]; exact h5) (cv_pas (μ := μ) hps) (cv_fl_k (cv_fl_k (cv_fl_k (cv_fl_k (cv_fl_k hFτ (by decide)) (by decide)) (by decide)) (by decide)) (by decide))
              exact LP61 (L 7 0) 0 _ (by omega) (fun q hq => by rw [cv_u_c (by decide)]; exact hsn q hq) (fun q hq => by rw [cv_u_c (by decide)]; exact hgs q (by omega)) cv_u_s (fun q hq => by omega) (cv_fl_0 hFτ (by decide))
            · skip
              omega
          | succ r ih28 =>
            intro v τ hr hsn hgs hFτ
            refine cv_iload_n C (pc' := 29) rfl (D 17 (28, .iload_n 1, 1) rfl) rfl (j := 0) rfl ?_
            refine cv_iconst C (pc' := 30) rfl (D 18 (29, .iconst 3, 1) rfl) (v := nI 3) (by decide) ?_
            refine cv_icmp_geN C (pc' := 33) rfl (by omega) (by omega) (tgt := 51) (D 19 (30, .if_icmp .ge 21, 3) rfl) (by decide) (fun b30 => ?_) (fun b30 => ?_)
            · skip
              omega
            · skip
              refine cv_aload_n C (pc' := 34) rfl (D 20 (33, .aload_n 0, 1) rfl) rfl (j := 1) rfl ?_
              refine cv_get C (pc' := 37) rfl (k0 := 0) (i := 7) (ci := 7) (by decide) rfl rfl (by decide) (o := some 5) rfl iw_X7 wfX7_22 (D 21 (34, .getfield 22, 3) rfl) rfl ?_
              refine cv_iload_n C (pc' := 38) rfl (D 22 (37, .iload_n 1, 1) rfl) rfl (j := 0) rfl ?_
              refine cv_aload_n C (pc' := 39) rfl (D 23 (38, .aload_n 0, 1) rfl) rfl (j := 1) rfl ?_
              refine cv_get C (pc' := 42) rfl (k0 := 0) (i := 17) (ci := 7) (by decide) rfl rfl (by decide) (o := some 12) rfl iw_X7 wfX7_47 (D 24 (39, .getfield 47, 3) rfl) rfl ?_
              refine cv_iload_n C (pc' := 43) rfl (D 25 (42, .iload_n 1, 1) rfl) rfl (j := 0) rfl ?_
              refine cv_iald C (pc' := 44) rfl (k0 := 12) (j := v) (by decide) rfl rfl (by omega) (by decide) (D 26 (43, .iaload, 1) rfl) (v := nI (L 6 v)) ((congrFun (hFτ.1 12 (by decide) (by decide)) _).trans (hR.2.1 _ (by omega))) ?_
              refine cv_iast C (pc' := 45) rfl (k0 := 5) (j := v) (by decide) rfl rfl (by omega) (by decide) (D 27 (44, .iastore, 1) rfl) ?_
              refine cv_iincN C (pc' := 48) rfl (D 28 (45, .iinc 1 1, 3) rfl) (j := 0) rfl (by decide) (lv' := [(1, .int (nI (v + 1))), (0, .ref 0)]) rfl ?_
              refine cv_goto C (tgt := 28) (D 29 (48, .goto (-20), 3) rfl) (by decide) ?_
              exact ih28 (v + 1) (cv_u τ 5 v (nI (L 6 v))) (by omega) (fun q hq => by rw [cv_u_c (by decide)]; exact hsn q hq) (cv_ex (fun q hq => by rw [cv_u_i (by omega)]; exact hgs q hq) cv_u_s) (cv_fl_k hFτ (by decide))
        exact LP28 3 0 τ (by decide) (fun i hi => hsn i (by omega)) (fun i hi => by omega) hFτ
      · skip
        omega
    | succ r ih2 =>
      intro d τ hr hsn hFτ
      refine cv_iload_n C (pc' := 3) rfl (D 2 (2, .iload_n 1, 1) rfl) rfl (j := 0) rfl ?_
      refine cv_bipush C (pc' := 5) rfl (D 3 (3, .bipush 8, 2) rfl) (v := nI 8) (by decide) ?_
      refine cv_icmp_geN C (pc' := 8) rfl (by omega) (by omega) (tgt := 26) (D 4 (5, .if_icmp .ge 21, 3) rfl) (by decide) (fun b5 => ?_) (fun b5 => ?_)
      · skip
        omega
      · skip
        refine cv_aload_n C (pc' := 9) rfl (D 5 (8, .aload_n 0, 1) rfl) rfl (j := 1) rfl ?_
        refine cv_get C (pc' := 12) rfl (k0 := 0) (i := 6) (ci := 7) (by decide) rfl rfl (by decide) (o := some 4) rfl iw_X7 wfX7_19 (D 6 (9, .getfield 19, 3) rfl) rfl ?_
        refine cv_iload_n C (pc' := 13) rfl (D 7 (12, .iload_n 1, 1) rfl) rfl (j := 0) rfl ?_
        refine cv_aload_n C (pc' := 14) rfl (D 8 (13, .aload_n 0, 1) rfl) rfl (j := 1) rfl ?_
        refine cv_get C (pc' := 17) rfl (k0 := 0) (i := 16) (ci := 7) (by decide) rfl rfl (by decide) (o := some 11) rfl iw_X7 wfX7_44 (D 9 (14, .getfield 44, 3) rfl) rfl ?_
        refine cv_iload_n C (pc' := 18) rfl (D 10 (17, .iload_n 1, 1) rfl) rfl (j := 0) rfl ?_
        refine cv_iald C (pc' := 19) rfl (k0 := 11) (j := d) (by decide) rfl rfl (by omega) (by decide) (D 11 (18, .iaload, 1) rfl) (v := nI (L 5 d)) ((congrFun (hFτ.1 11 (by decide) (by decide)) _).trans (hR.1 _ (by omega))) ?_
        refine cv_iast C (pc' := 20) rfl (k0 := 4) (j := d) (by decide) rfl rfl (by omega) (by decide) (D 12 (19, .iastore, 1) rfl) ?_
        refine cv_iincN C (pc' := 23) rfl (D 13 (20, .iinc 1 1, 3) rfl) (j := 0) rfl (by decide) (lv' := [(1, .int (nI (d + 1))), (0, .ref 0)]) rfl ?_
        refine cv_goto C (tgt := 2) (D 14 (23, .goto (-21), 3) rfl) (by decide) ?_
        exact ih2 (d + 1) (cv_u τ 4 d (nI (L 5 d))) (by omega) (cv_ex (fun q hq => by rw [cv_u_i (by omega)]; exact hsn q hq) cv_u_s) (cv_fl_k hFτ (by decide))
  exact LP2 8 0 μ (by decide) (fun i hi => by omega) (cv_fl_r μ)

theorem cv_RM_fr {tr : Int32} {ft : Nat} {sl : Nat → Option (Nat × Nat)} {sc : Nat → Nat → Int32} {L : cv_L} {rc : Nat} {rd : Nat → Nat} {rn : Nat → Option Nat} {μ u : cv_St} {v : Int32} (h : cv_fr (cv_u μ 0 14 v) u) (hR : cv_RM tr ft sl sc L rc rd rn μ) : cv_RM tr ft sl sc L rc rd rn u :=
  cv_RM_k ⟨fun k a b => by rw [h.1 k a (by omega), cv_u_c a], fun i hi => by rw [h.2 i (by omega) (by omega), cv_u_i (by omega)]⟩ hR
theorem cv_RM_land {tr : Int32} {ft : Nat} {sl : Nat → Option (Nat × Nat)} {sc : Nat → Nat → Int32} {L L' : cv_L} {rc : Nat} {rd : Nat → Nat} {rn : Nat → Option Nat} {μ u : cv_St} (h : cv_fl μ u) (hL : cv_LM L' u) (h26 : u 0 26 = nI 0) (hR : cv_RM tr ft sl sc L rc rd rn μ) : cv_RM tr ft sl sc L' 0 rd rn u := by
  obtain ⟨h1, h2, h3, h4, h5, h6⟩ := hR
  exact ⟨by rw [h.2 1 (by decide) (by decide)]; exact h1, by rw [h.2 0 (by decide) (by decide)]; exact h2, fun k hk => by rw [h.1 1 (by decide) (by decide), h.1 2 (by decide) (by decide), h.1 3 (by decide) (by decide)]; exact h3 k hk, hL, by rw [h.2 13 (by decide) (by decide)]; exact h5, h26, fun k hk => by omega⟩
set_option maxHeartbeats 4000000 in
set_option maxRecDepth 100000 in
theorem pX7_land (tr : Int32) (ft : Nat) (sl : Nat → Option (Nat × Nat)) (sc : Nat → Nat → Int32) (L : cv_L) (rc : Nat) (rd : Nat → Nat) (rn : Nat → Option Nat) (x y z w : Int32) (μ : cv_St) (hR : cv_RM tr ft sl sc L rc rd rn μ) (hB : cv_LB L) (hDB : cv_DB rc rd rn) : cv_Ct yX7_land cX7_land 7 (some .int) 4 0 0 17 cv_shM [.ref 0, .int x, .int y, .int z, .int w] μ (fun v u => v = some (.int (cv_a_land sl sc x y z w)) ∧ cv_RM tr (cv_f_land sl x y z w) sl sc (cv_n_land sl sc L x y z w) (cv_r_land sl sc rc x y z w) rd rn u) := by
  refine cv_enter (own := RX7) (by decide) rfl (Nat.le_of_ble_eq_true rfl) ?_
  intro X a C Rt hRm
  have D := @cv_dec _ _ dkX7_land
  obtain ⟨hTr, hFt, hSh, hL, hM, hD⟩ := id hR
  have hn6 := hB.1
  have hrc := hDB.1
  show cv_At X _ _ μ 0 [(0, .ref 0), (1, .int x), (2, .int y), (3, .int z), (4, .int w)] []
  refine cv_aload_n C (pc' := 1) rfl (D 0 (0, .aload_n 0, 1) rfl) rfl (j := 0) rfl ?_
  refine cv_iconst C (pc' := 2) rfl (D 1 (1, .iconst 0, 1) rfl) (v := nI 0) (by decide) ?_
  refine cv_put C (pc' := 5) rfl (k0 := 0) (i := 0) (ci := 7) (by decide) rfl rfl (by decide) rfl iw_X7 tyX7 tyX7_ok nmX7 wfX7_62 rfl rfl rfl (D 2 (2, .putfield 62, 3) rfl) ?_
  refine cv_iload_n C (pc' := 6) rfl (D 3 (5, .iload_n 1, 1) rfl) rfl (j := 1) rfl ?_
  refine cv_callS C (pc' := 9) rfl (As := [.int x]) (rest := []) (idx := 81) (np := 1) (kX7_isSheet x (cv_u μ 0 0 (nI 0))) (by decide +kernel) rfl wmX7_81 wt_yX7_isSheet wn_X7 wc_yX7_isSheet (by decide) (by decide) (D 4 (6, .invokestatic 81, 3) rfl) (Nat.le_of_ble_eq_true rfl) rfl (fun w9 u9 h9 => ?_)
  rw [h9.1, h9.2]
  show cv_At X _ _ (cv_u μ 0 0 (nI 0)) 9 _ [.int (cv_b (cv_in x 4))]
  refine cv_if_neB C (pc' := 12) rfl (tgt := 14) (D 5 (9, .ifCond .ne 5, 3) rfl) (by decide) (fun b9 => ?_) (fun b9 => ?_)
  · skip
    refine cv_iload_n C (pc' := 15) rfl (D 8 (14, .iload_n 2, 1) rfl) rfl (j := 2) rfl ?_
    refine cv_callS C (pc' := 18) rfl (As := [.int y]) (rest := []) (idx := 85) (np := 1) (kX7_isSort y (cv_u μ 0 0 (nI 0))) (by decide +kernel) rfl wmX7_85 wt_yX7_isSort wn_X7 wc_yX7_isSort (by decide) (by decide) (D 9 (15, .invokestatic 85, 3) rfl) (Nat.le_of_ble_eq_true rfl) rfl (fun w9 u9 h9 => ?_)
    rw [h9.1, h9.2]
    show cv_At X _ _ (cv_u μ 0 0 (nI 0)) 18 _ [.int (cv_b (cv_in y 3))]
    refine cv_if_neB C (pc' := 21) rfl (tgt := 24) (D 10 (18, .ifCond .ne 6, 3) rfl) (by decide) (fun b18 => ?_) (fun b18 => ?_)
    · skip
      obtain ⟨j, hj, rfl⟩ := cv_in_of b9 (by omega)
      have hj9 : cv_nt (nI j) = j := nI_clamp (by omega)
      have hfb := cv_fo_le (sl j) y z w
      refine cv_aload_n C (pc' := 25) rfl (D 13 (24, .aload_n 0, 1) rfl) rfl (j := 0) rfl ?_
      refine cv_iload_n C (pc' := 26) rfl (D 14 (25, .iload_n 1, 1) rfl) rfl (j := 1) rfl ?_
      refine cv_iload_n C (pc' := 27) rfl (D 15 (26, .iload_n 2, 1) rfl) rfl (j := 2) rfl ?_
      refine cv_iload_n C (pc' := 28) rfl (D 16 (27, .iload_n 3, 1) rfl) rfl (j := 3) rfl ?_
      refine cv_iload C (pc' := 30) rfl (D 17 (28, .iload 4, 2) rfl) (j := 4) rfl ?_
      refine cv_callV C (pc' := 33) rfl (k0 := 0) (ci := 7) (As := [.int (nI j), .int y, .int z, .int w]) (rest := []) (idx := 88) (np := 4) (kX7_against j (sl j) y z w (cv_u μ 0 0 (nI 0)) hj (by rw [cv_u_c (by decide), cv_u_c (by decide)]; exact (hSh j hj).1)) (by decide) rfl rfl rfl (by decide +kernel) rfl wmX7_88 wi_yX7_against ws_yX7_against wn_X7 wc_yX7_against (by decide) (by decide) (D 18 (30, .invokevirtual 88, 3) rfl) (Nat.le_of_ble_eq_true rfl) rfl (fun w9 u9 h9 => ?_)
      rw [h9.1, h9.2]
      show cv_At X _ _ (cv_u μ 0 0 (nI 0)) 33 _ [.int (nI (cv_fo (sl j) y z w))]
      refine cv_istore C (pc' := 35) rfl (D 19 (33, .istore 5, 2) rfl) (by decide) (lv' := [(5, .int (nI (cv_fo (sl j) y z w))), (0, .ref 0), (1, .int (nI j)), (2, .int y), (3, .int z), (4, .int w)]) rfl ?_
      refine cv_iload C (pc' := 37) rfl (D 20 (35, .iload 5, 2) rfl) (j := 0) rfl ?_
      refine cv_if_eqN C (pc' := 40) rfl (by omega) (tgt := 47) (D 21 (37, .ifCond .eq 10, 3) rfl) (by decide) (fun b37 => ?_) (fun b37 => ?_)
      · skip
        obtain ⟨q0, hq0, -, hyh⟩ := cv_fo_0 b37
        have hS1 := (hSh j hj).1
        rw [hq0] at hS1
        have h60 := hS1.2.2.2
        obtain ⟨i, n, ei, en, hin⟩ := cv_hs_of h60 hyh
        subst ei
        subst en
        have hi9 : cv_nt (nI i) = i := nI_clamp (by omega)
        have hn9 : cv_nt (nI n) = n := nI_clamp (by omega)
        have hSc := (hSh j hj).2 (by rw [hq0]; rfl)
        refine cv_bipush C (pc' := 49) rfl (D 26 (47, .bipush 60, 2) rfl) (v := nI 60) (by decide) ?_
        refine cv_iload_n C (pc' := 50) rfl (D 27 (49, .iload_n 1, 1) rfl) rfl (j := 2) rfl ?_
        refine cv_imulN C (pc' := 51) rfl (D 28 (50, .imul, 1) rfl) ?_
        refine cv_iload_n C (pc' := 52) rfl (D 29 (51, .iload_n 3, 1) rfl) rfl (j := 4) rfl ?_
        refine cv_iaddN C (pc' := 53) rfl (D 30 (52, .iadd, 1) rfl) ?_
        refine cv_istore C (pc' := 55) rfl (D 31 (53, .istore 6, 2) rfl) (by decide) (lv' := [(6, .int (nI ((60 * j) + i))), (5, .int (nI (cv_fo (sl j) y (nI i) (nI n)))), (0, .ref 0), (1, .int (nI j)), (2, .int y), (3, .int (nI i)), (4, .int (nI n))]) rfl ?_
        refine cv_aload_n C (pc' := 56) rfl (D 32 (55, .aload_n 0, 1) rfl) rfl (j := 2) rfl ?_
        refine cv_iload C (pc' := 58) rfl (D 33 (56, .iload 6, 2) rfl) (j := 0) rfl ?_
        refine cv_put C (pc' := 61) rfl (k0 := 0) (i := 14) (ci := 7) (by decide) rfl rfl (by decide) rfl iw_X7 tyX7 tyX7_ok nmX7 wfX7_74 rfl rfl rfl (D 34 (58, .putfield 74, 3) rfl) ?_
        refine cv_aload_n C (pc' := 62) rfl (D 35 (61, .aload_n 0, 1) rfl) rfl (j := 2) rfl ?_
        refine cv_iload C (pc' := 64) rfl (D 36 (62, .iload 6, 2) rfl) (j := 0) rfl ?_
        refine cv_iload C (pc' := 66) rfl (D 37 (64, .iload 4, 2) rfl) (j := 6) rfl ?_
        refine cv_iaddN C (pc' := 67) rfl (D 38 (66, .iadd, 1) rfl) ?_
        have hTQ : cv_TQ (cv_gr sc j i) n (60 * j + i) (cv_u (cv_u μ 0 0 (nI 0)) 0 14 (nI ((60 * j) + i))) := ⟨by omega, fun q hq => by rw [cv_u_c (by decide), cv_u_c (by decide), Nat.add_assoc]; exact hSc _ (by omega)⟩
        refine cv_callV C (pc' := 70) rfl (k0 := 0) (ci := 7) (As := [.int (nI (((60 * j) + i) + n))]) (rest := []) (idx := 96) (np := 1) (kX7_readLand (cv_gr sc j i) n (60 * j + i) (cv_u (cv_u μ 0 0 (nI 0)) 0 14 (nI ((60 * j) + i))) hTQ cv_u_s) (by decide) rfl rfl rfl (by decide +kernel) rfl wmX7_96 wi_yX7_readLand ws_yX7_readLand wn_X7 wc_yX7_readLand (by decide) (by decide) (D 39 (67, .invokevirtual 96, 3) rfl) (Nat.le_of_ble_eq_true rfl) rfl (fun w67 u67 h67 => ?_)
        rcases h67 with ⟨e67, hff, t1, t2⟩ | ⟨e67, jj, hff, t1, t2⟩
        · skip
          rw [e67]
          have hTB := cv_tl_B hff
          show cv_At X _ _ u67 70 _ [.int (nI 1)]
          refine cv_if_ne C (pc' := 73) rfl (tgt := 84) (D 40 (70, .ifCond .ne 14, 3) rfl) (by decide) (fun _ => ?_) (fun h => absurd h (by decide))
          refine cv_aload_n C (pc' := 85) rfl (D 48 (84, .aload_n 0, 1) rfl) rfl (j := 2) rfl ?_
          refine cv_callV C (pc' := 88) rfl (k0 := 0) (ci := 7) (As := []) (rest := []) (idx := 99) (np := 0) (kX7_takeLand (cv_tl (cv_gr sc j i) n) u67 hTB.1 t1) (by decide) rfl rfl rfl (by decide +kernel) rfl wmX7_99 wi_yX7_takeLand ws_yX7_takeLand wn_X7 wc_yX7_takeLand (by decide) (by decide) (D 49 (85, .invokevirtual 99, 3) rfl) (Nat.le_of_ble_eq_true rfl) rfl (fun w85 u85 h85 => ?_)
          obtain ⟨e1, e2, e3, e4⟩ := h85
          rw [e1]
          show cv_At X _ _ u85 88 _ []
          refine cv_aload_n C (pc' := 89) rfl (D 50 (88, .aload_n 0, 1) rfl) rfl (j := 2) rfl ?_
          refine cv_get C (pc' := 92) rfl (k0 := 0) (i := 5) (ci := 7) (by decide) rfl rfl (by decide) (o := none) rfl iw_X7 wfX7_71 (D 51 (89, .getfield 71, 3) rfl) (v := .int (nI (cv_tl (cv_gr sc j i) n 7 0))) (congrArg Value.int e2.1) ?_
          exact cv_iret C Rt rfl (D 52 (92, .ireturn, 1) rfl) ⟨congrArg (fun z => some (Value.int z)) (by unfold cv_a_land; rw [if_pos b9, if_pos b18]; simp only [cv_nt, nI_clamp (show j < 2 ^ 31 by omega), nI_clamp (show i < 2 ^ 31 by omega), nI_clamp (show n < 2 ^ 31 by omega)]; rw [if_pos b37, hff]), by unfold cv_f_land cv_n_land cv_r_land; simp only [cv_nt, nI_clamp (show j < 2 ^ 31 by omega), nI_clamp (show i < 2 ^ 31 by omega), nI_clamp (show n < 2 ^ 31 by omega)]; rw [if_pos ⟨b9, b18⟩, if_pos ⟨⟨b9, b18⟩, by rw [hj9]; exact b37, by rw [hj9, hi9, hn9, hff]; rfl⟩, if_pos ⟨⟨b9, b18⟩, by rw [hj9]; exact b37, by rw [hj9, hi9, hn9, hff]; rfl⟩, b37]; exact cv_RM_land e4 e2 e3 (cv_RM_fr t2 (cv_RM_f 0 hR))⟩
        · skip
          rw [e67]
          have hjl := cv_ff_lt hff
          show cv_At X _ _ u67 70 _ [.int (nI 0)]
          refine cv_if_ne C (pc' := 73) rfl (tgt := 84) (D 40 (70, .ifCond .ne 14, 3) rfl) (by decide) (fun h => absurd h (by decide)) (fun _ => ?_)
          refine cv_bipush C (pc' := 75) rfl (D 41 (73, .bipush (-100), 2) rfl) (v := -100) (by decide) ?_
          refine cv_aload_n C (pc' := 76) rfl (D 42 (75, .aload_n 0, 1) rfl) rfl (j := 2) rfl ?_
          refine cv_get C (pc' := 79) rfl (k0 := 0) (i := 14) (ci := 7) (by decide) rfl rfl (by decide) (o := none) rfl iw_X7 wfX7_74 (D 43 (76, .getfield 74, 3) rfl) (v := .int (nI (60 * j + i + jj))) (congrArg Value.int t1) ?_
          refine cv_iload C (pc' := 81) rfl (D 44 (79, .iload 6, 2) rfl) (j := 0) rfl ?_
          refine cv_isubN C (pc' := 82) rfl (by omega) (D 45 (81, .isub, 1) rfl) ?_
          refine cv_isub C (pc' := 83) rfl (D 46 (82, .isub, 1) rfl) ?_
          exact cv_iret C Rt rfl (D 47 (83, .ireturn, 1) rfl) ⟨congrArg (fun z => some (Value.int z)) (by unfold cv_a_land; rw [if_pos b9, if_pos b18]; simp only [cv_nt, nI_clamp (show j < 2 ^ 31 by omega), nI_clamp (show i < 2 ^ 31 by omega), nI_clamp (show n < 2 ^ 31 by omega)]; rw [if_pos b37, hff, show 60 * j + i + jj - (60 * j + i) = jj by omega]), by unfold cv_f_land cv_n_land cv_r_land; simp only [cv_nt, nI_clamp (show j < 2 ^ 31 by omega), nI_clamp (show i < 2 ^ 31 by omega), nI_clamp (show n < 2 ^ 31 by omega)]; rw [if_pos ⟨b9, b18⟩, if_neg (fun h => by have := h.2.2; rw [hj9, hi9, hn9, hff] at this; cases this), if_neg (fun h => by have := h.2.2; rw [hj9, hi9, hn9, hff] at this; cases this), b37]; exact cv_RM_fr t2 (cv_RM_f 0 hR)⟩
      · skip
        refine cv_aload_n C (pc' := 41) rfl (D 22 (40, .aload_n 0, 1) rfl) rfl (j := 1) rfl ?_
        refine cv_iload C (pc' := 43) rfl (D 23 (41, .iload 5, 2) rfl) (j := 0) rfl ?_
        refine cv_callV C (pc' := 46) rfl (k0 := 0) (ci := 7) (As := [.int (nI (cv_fo (sl j) y z w))]) (rest := []) (idx := 92) (np := 1) (kX7_fails (cv_fo (sl j) y z w) (cv_u μ 0 0 (nI 0))) (by decide) rfl rfl rfl (by decide +kernel) rfl wmX7_92 wi_yX7_fails ws_yX7_fails wn_X7 wc_yX7_fails (by decide) (by decide) (D 24 (43, .invokevirtual 92, 3) rfl) (Nat.le_of_ble_eq_true rfl) rfl (fun w43 u43 h43 => ?_)
        rw [h43.1, h43.2, cv_uu]
        show cv_At X _ _ (cv_u μ 0 0 (nI (cv_fo (sl j) y z w))) 46 _ [.int (-10 - nI (cv_fo (sl j) y z w))]
        exact cv_iret C Rt rfl (D 25 (46, .ireturn, 1) rfl) ⟨congrArg (fun z => some (Value.int z)) (by unfold cv_a_land; rw [if_pos b9, if_pos b18]; simp only [cv_nt, nI_clamp (show j < 2 ^ 31 by omega)]; rw [if_neg (by omega)]), by unfold cv_f_land cv_n_land cv_r_land; simp only [cv_nt, nI_clamp (show j < 2 ^ 31 by omega)]; rw [if_pos ⟨b9, b18⟩, if_neg (fun h => by have := h.2.1; rw [hj9] at this; omega), if_neg (fun h => by have := h.2.1; rw [hj9] at this; omega)]; exact cv_RM_f _ hR⟩
    · skip
      refine cv_bipush C (pc' := 23) rfl (D 11 (21, .bipush (-2), 2) rfl) (v := -2) (by decide) ?_
      exact cv_iret C Rt rfl (D 12 (23, .ireturn, 1) rfl) ⟨congrArg (fun z => some (Value.int z)) (by unfold cv_a_land; rw [if_pos b9, if_neg (by simp [b18])]), by unfold cv_f_land cv_n_land cv_r_land; rw [if_neg (by simp [b18]), if_neg (fun h => by rw [h.1.2] at b18; cases b18), if_neg (fun h => by rw [h.1.2] at b18; cases b18)]; exact cv_RM_f _ hR⟩
  · skip
    refine cv_iconst C (pc' := 13) rfl (D 6 (12, .iconst (-1), 1) rfl) (v := -1) (by decide) ?_
    exact cv_iret C Rt rfl (D 7 (13, .ireturn, 1) rfl) ⟨congrArg (fun z => some (Value.int z)) (by unfold cv_a_land; rw [if_neg (by simp [b9])]), by unfold cv_f_land cv_n_land cv_r_land; rw [if_neg (by simp [b9]), if_neg (fun h => by rw [h.1.1] at b9; cases b9), if_neg (fun h => by rw [h.1.1] at b9; cases b9)]; exact cv_RM_f _ hR⟩

