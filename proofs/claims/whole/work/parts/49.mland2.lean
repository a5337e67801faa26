/-- but for what is read, as it was -/
def cv_fr (μ u : cv_St) : Prop := (∀ k, k ≠ 0 → ¬ (11 ≤ k ∧ k ≤ 13) → u k = μ k) ∧ ∀ i, i ≠ 14 → i ≠ 15 → u 0 i = μ 0 i
theorem cv_fr_r (μ : cv_St) : cv_fr μ μ := ⟨fun _ _ _ => rfl, fun _ _ _ => rfl⟩
theorem cv_fr_0 {i : Nat} {v : Int32} {μ u : cv_St} (h : cv_fr μ u) (hi : i = 14 ∨ i = 15) : cv_fr μ (cv_u u 0 i v) := ⟨fun k a b => by rw [cv_u_c a]; exact h.1 k a b, fun j a b => by rw [cv_u_i (by omega)]; exact h.2 j a b⟩
theorem cv_fr_k {c i : Nat} {v : Int32} {μ u : cv_St} (h : cv_fr μ u) (hc : 11 ≤ c ∧ c ≤ 13) : cv_fr μ (cv_u u c i v) := ⟨fun k a b => by rw [cv_u_c (by omega)]; exact h.1 k a b, fun j a b => by rw [cv_u_c (by omega)]; exact h.2 j a b⟩
theorem cv_fr_q {m : Nat} {μ τ u : cv_St} (h : cv_fr μ τ) (hq : cv_fq m τ u) : cv_fr μ u := ⟨fun k a b => by rw [hq.1 k a (by omega)]; exact h.1 k a b, fun j a b => by rw [hq.2.1 j a b]; exact h.2 j a b⟩
theorem cv_ff_w {g : Nat → Int32} {n m : Nat} (h : ∀ i, i < 21 + 6 * m → cv_gn g n i = true) (hn : n = 21 + 6 * m) (hm : 1 ≤ m) : cv_ff g n = none := by
  rw [cv_ff_all (fun i hi => (cv_gn_iff.mp (h i (by omega))).2), if_pos (by omega)]
theorem cv_tl7 {g : Nat → Int32} {n m : Nat} (hn : n = 21 + 6 * m) : cv_tl g n 7 0 = m := by
  show (n - 21) / 6 = m
  omega
def cv_RL (L : cv_L) (u : cv_St) : Prop := (∀ d, d < 8 → u 11 d = nI (L 5 d)) ∧ (∀ v, v < 3 → u 12 v = nI (L 6 v)) ∧ u 0 15 = nI (L 7 0) ∧ ∀ p, p < L 7 0 → ∀ i, i < 5 → u 13 (5 * p + i) = nI (L i p)
theorem cv_tl6_b {g : Nat → Int32} {n v : Nat} (h : ∀ i, i < 9 + 4 * v + 1 + 3 → cv_gn g n i = true) (hv : v < 3) : cv_tl g n 6 v < 2 ^ 31 := by
  have a := (cv_gn_iff.mp (h (9 + 4 * v + 1) (by omega))).2
  have b := (cv_gn_iff.mp (h (9 + 4 * v + 2) (by omega))).2
  have c := (cv_gn_iff.mp (h (9 + 4 * v + 3) (by omega))).2
  rw [cv_go_g hv (by decide)] at a b c
  unfold cv_gg at a b c
  rw [if_neg (by decide), if_pos rfl] at a
  rw [if_neg (by decide), if_neg (by decide), if_pos rfl] at b
  rw [if_neg (by decide), if_neg (by decide), if_neg (by decide)] at c
  have a1 := (cv_dt_of (by decide) (by decide) a).2.2
  have b1 := (cv_dt_of (by split <;> decide) (by decide) b).2.2
  have c1 := (cv_dt_of (by split <;> decide) (by decide) c).2.2
  have b2 : cv_dt g (9 + 4 * v + 2) ≤ 9 := Nat.le_trans b1 (by split <;> decide)
  have c2 : cv_dt g (9 + 4 * v + 3) ≤ 9 := Nat.le_trans c1 (by split <;> decide)
  show cv_dt g (9 + 4 * v + 1) * 100 + cv_dt g (9 + 4 * v + 2) * 10 + cv_dt g (9 + 4 * v + 3) < 2 ^ 31
  omega
set_option maxHeartbeats 4000000 in
set_option maxRecDepth 100000 in
theorem kX7_readLand (g : Nat → Int32) (n F : Nat) (μ : cv_St) (hT : cv_TQ g n F μ) (hA : μ 0 14 = nI (F + 0)) : cv_Ct yX7_readLand cX7_readLand 3 (some .boolean) 3 0 0 17 cv_shM [.ref 0, .int (nI (F + n))] μ (fun w u => (w = some (.int (nI 1)) ∧ cv_ff g n = none ∧ cv_RL (cv_tl g n) u ∧ cv_fr μ u) ∨ (w = some (.int (nI 0)) ∧ ∃ j, cv_ff g n = some j ∧ u 0 14 = nI (F + j) ∧ cv_fr μ u)) := by
  refine cv_enter (own := RX7) (by decide) rfl (Nat.le_of_ble_eq_true rfl) ?_
  intro X a C Rt hRm
  have D := @cv_dec _ _ dkX7_readLand
  have hT1 := hT.1
  show cv_At X _ _ μ 0 [(0, .ref 0), (1, .int (nI (F + n)))] []
  refine cv_aload_n C (pc' := 1) rfl (D 0 (0, .aload_n 0, 1) rfl) rfl (j := 0) rfl ?_
  refine cv_iconst C (pc' := 2) rfl (D 1 (1, .iconst 0, 1) rfl) (v := nI 0) (by decide) ?_
  refine cv_put C (pc' := 5) rfl (k0 := 0) (i := 15) (ci := 7) (by decide) rfl rfl (by decide) rfl iw_X7 tyX7 tyX7_ok nmX7 wfX7_102 rfl rfl rfl (D 2 (2, .putfield 102, 3) rfl) ?_
  refine cv_aload_n C (pc' := 6) rfl (D 3 (5, .aload_n 0, 1) rfl) rfl (j := 0) rfl ?_
  refine cv_iload_n C (pc' := 7) rfl (D 4 (6, .iload_n 1, 1) rfl) rfl (j := 1) rfl ?_
  refine cv_bipush C (pc' := 9) rfl (D 5 (7, .bipush 118, 2) rfl) (v := nI 118) (by decide) ?_
  refine cv_callV C (pc' := 12) rfl (k0 := 0) (ci := 7) (As := [.int (nI (F + n)), .int (nI 118)]) (rest := []) (idx := 108) (np := 2) (kX7_isSign g n F 0 118 (cv_u μ 0 15 (nI 0)) (cv_TQ_u (by decide) hT) ((cv_u_i (by omega)).trans hA) (by omega)) (by decide) rfl rfl rfl (by decide +kernel) rfl wmX7_108 wi_yX7_isSign ws_yX7_isSign wn_X7 wc_yX7_isSign (by decide) (by decide) (D 6 (9, .invokevirtual 108, 3) rfl) (Nat.le_of_ble_eq_true rfl) rfl (fun w9 u9 h9 => ?_)
  rcases h9 with ⟨c9, e9, f9⟩ | ⟨c9, e9, f9⟩
  · skip
    rw [e9, f9]
    show cv_At X _ _ (cv_u (cv_u μ 0 15 (nI 0)) 0 14 (nI (F + (0 + 1)))) 12 _ [.int (nI 1)]
    have k0 : ∀ i, i < 1 + 0 → cv_gn g n i = true := cv_gn_s (j := 0) (fun i hi => by omega) ⟨c9.1, by rw [cv_go_0, decide_eq_true c9.2]⟩
    refine cv_if_ne C (pc' := 15) rfl (tgt := 17) (D 7 (12, .ifCond .ne 5, 3) rfl) (by decide) (fun _ => ?_) (fun h => absurd h (by decide))
    refine cv_iconst C (pc' := 18) rfl (D 10 (17, .iconst 0, 1) rfl) (v := nI 0) (by decide) ?_
    refine cv_istore_n C (pc' := 19) rfl (D 11 (18, .istore_n 2, 1) rfl) rfl (by decide) (lv' := [(2, .int (nI 0)), (0, .ref 0), (1, .int (nI (F + n)))]) rfl ?_
    have LP19 : ∀ (r : Nat) (d : Nat) (τ : cv_St), (d + r = 8) → (∀ i, i < 1 + d → cv_gn g n i = true) → (τ 0 14 = nI (F + (1 + d))) → (∀ i, i < d → τ 11 i = nI (cv_tl g n 5 i)) → (τ 0 15 = nI 0) → (cv_fr μ τ) → cv_At X (17, cv_shM, 0, 0, a) 3 τ 19 [(2, .int (nI d)), (0, .ref 0), (1, .int (nI (F + n)))] [] := by
      intro r
      induction r with
      | zero =>
        intro d τ hr hgo hAτ hsn h15 hFτ
        have hd8 : d = 8 := by omega
        have hTτ := cv_TQ_3 (hFτ.1 3 (by decide) (by decide)) hT
        have hle := cv_gn_le hgo
        refine cv_iload_n C (pc' := 20) rfl (D 12 (19, .iload_n 2, 1) rfl) rfl (j := 0) rfl ?_
        refine cv_bipush C (pc' := 22) rfl (D 13 (20, .bipush 8, 2) rfl) (v := nI 8) (by decide) ?_
        refine cv_icmp_geN C (pc' := 25) rfl (by omega) (by omega) (tgt := 58) (D 14 (22, .if_icmp .ge 36, 3) rfl) (by decide) (fun b22 => ?_) (fun b22 => ?_)
        · skip
          refine cv_iconst C (pc' := 59) rfl (D 34 (58, .iconst 0, 1) rfl) (v := nI 0) (by decide) ?_
          refine cv_istore_n C (pc' := 60) rfl (D 35 (59, .istore_n 2, 1) rfl) rfl (by decide) (lv' := [(2, .int (nI 0)), (0, .ref 0), (1, .int (nI (F + n)))]) rfl ?_
          have LP60 : ∀ (r : Nat) (v : Nat) (τ : cv_St), (v + r = 3) → (∀ i, i < 9 + 4 * v → cv_gn g n i = true) → (τ 0 14 = nI (F + (9 + 4 * v))) → (∀ i, i < 8 → τ 11 i = nI (cv_tl g n 5 i)) → (∀ i, i < v → τ 12 i = nI (cv_tl g n 6 i)) → (τ 0 15 = nI 0) → (cv_fr μ τ) → cv_At X (17, cv_shM, 0, 0, a) 3 τ 60 [(2, .int (nI v)), (0, .ref 0), (1, .int (nI (F + n)))] [] := by
            intro r
            induction r with
            | zero =>
              intro v τ hr hgo hAτ hsn hgs h15 hFτ
              have hv3 : v = 3 := by omega
              have hTτ := cv_TQ_3 (hFτ.1 3 (by decide) (by decide)) hT
              have hle := cv_gn_le hgo
              refine cv_iload_n C (pc' := 61) rfl (D 36 (60, .iload_n 2, 1) rfl) rfl (j := 0) rfl ?_
              refine cv_iconst C (pc' := 62) rfl (D 37 (61, .iconst 3, 1) rfl) (v := nI 3) (by decide) ?_
              refine cv_icmp_geN C (pc' := 65) rfl (by omega) (by omega) (tgt := 107) (D 38 (62, .if_icmp .ge 45, 3) rfl) (by decide) (fun b62 => ?_) (fun b62 => ?_)
              · skip
                have LP107 : ∀ (r : Nat) (m : Nat) (τ : cv_St), (m + r = 6) → (∀ i, i < 21 + 6 * m → cv_gn g n i = true) → (τ 0 14 = nI (F + (21 + 6 * m))) → (∀ i, i < 8 → τ 11 i = nI (cv_tl g n 5 i)) → (∀ i, i < 3 → τ 12 i = nI (cv_tl g n 6 i)) → (τ 0 15 = nI m) → (∀ q, q < m → ∀ i, i < 5 → τ 13 (5 * q + i) = nI (cv_tl g n i q)) → (cv_fr μ τ) → cv_At X (17, cv_shM, 0, 0, a) 3 τ 107 [(0, .ref 0), (1, .int (nI (F + n)))] [] := by
                  intro r
                  induction r with
                  | zero =>
                    intro m τ hr hgo hAτ hsn hgs h15 hps hFτ
                    have hTτ := cv_TQ_3 (hFτ.1 3 (by decide) (by decide)) hT
                    have hle := cv_gn_le hgo
                    have hm0 : True := trivial
                    refine cv_aload_n C (pc' := 108) rfl (D 63 (107, .aload_n 0, 1) rfl) rfl (j := 0) rfl ?_
                    refine cv_get C (pc' := 111) rfl (k0 := 0) (i := 15) (ci := 7) (by decide) rfl rfl (by decide) (o := none) rfl iw_X7 wfX7_102 (D 64 (108, .getfield 102, 3) rfl) (v := .int (nI m)) (congrArg Value.int h15) ?_
                    refine cv_if_eqN C (pc' := 114) rfl (by omega) (tgt := 131) (D 65 (111, .ifCond .eq 20, 3) rfl) (by decide) (fun b111 => ?_) (fun b111 => ?_)
                    · skip
                      omega
                    · skip
                      refine cv_aload_n C (pc' := 115) rfl (D 66 (114, .aload_n 0, 1) rfl) rfl (j := 0) rfl ?_
                      refine cv_get C (pc' := 118) rfl (k0 := 0) (i := 15) (ci := 7) (by decide) rfl rfl (by decide) (o := none) rfl iw_X7 wfX7_102 (D 67 (115, .getfield 102, 3) rfl) (v := .int (nI m)) (congrArg Value.int h15) ?_
                      refine cv_bipush C (pc' := 120) rfl (D 68 (118, .bipush 6, 2) rfl) (v := nI 6) (by decide) ?_
                      refine cv_icmp_geN C (pc' := 123) rfl (by omega) (by omega) (tgt := 151) (D 69 (120, .if_icmp .ge 31, 3) rfl) (by decide) (fun b120 => ?_) (fun b120 => ?_)
                      · skip
                        refine cv_aload_n C (pc' := 152) rfl (D 85 (151, .aload_n 0, 1) rfl) rfl (j := 0) rfl ?_
                        refine cv_get C (pc' := 155) rfl (k0 := 0) (i := 14) (ci := 7) (by decide) rfl rfl (by decide) (o := none) rfl iw_X7 wfX7_74 (D 86 (152, .getfield 74, 3) rfl) (v := .int (nI (F + (21 + 6 * m)))) (congrArg Value.int hAτ) ?_
                        refine cv_iload_n C (pc' := 156) rfl (D 87 (155, .iload_n 1, 1) rfl) rfl (j := 1) rfl ?_
                        refine cv_icmp_neN C (pc' := 159) rfl (by omega) (by omega) (tgt := 163) (D 88 (156, .if_icmp .ne 7, 3) rfl) (by decide) (fun b156 => ?_) (fun b156 => ?_)
                        · skip
                          refine cv_iconst C (pc' := 164) rfl (D 91 (163, .iconst 0, 1) rfl) (v := nI 0) (by decide) ?_
                          exact cv_iret C Rt (by decide) (D 92 (164, .ireturn, 1) rfl) (Or.inr ⟨rfl, 21 + 6 * m, cv_FP_ff (cv_FP_mk hgo (fun h => by have := h.2; rw [show 21 + 6 * m = 57 by omega, cv_go_57] at this; cases this) (by omega)), hAτ, hFτ⟩)
                        · skip
                          refine cv_iconst C (pc' := 160) rfl (D 89 (159, .iconst 1, 1) rfl) (v := nI 1) (by decide) ?_
                          refine cv_goto C (tgt := 164) (D 90 (160, .goto 4, 3) rfl) (by decide) ?_
                          exact cv_iret C Rt (by decide) (D 92 (164, .ireturn, 1) rfl) (by have hnm : n = 21 + 6 * m := (by omega); exact Or.inl ⟨rfl, cv_ff_w hgo hnm (by omega), ⟨hsn, hgs, by rw [cv_tl7 hnm]; exact h15, by rw [cv_tl7 hnm]; exact hps⟩, hFτ⟩)
                      · skip
                        omega
                  | succ r ih107 =>
                    intro m τ hr hgo hAτ hsn hgs h15 hps hFτ
                    have hTτ := cv_TQ_3 (hFτ.1 3 (by decide) (by decide)) hT
                    have hle := cv_gn_le hgo
                    refine cv_aload_n C (pc' := 108) rfl (D 63 (107, .aload_n 0, 1) rfl) rfl (j := 0) rfl ?_
                    refine cv_get C (pc' := 111) rfl (k0 := 0) (i := 15) (ci := 7) (by decide) rfl rfl (by decide) (o := none) rfl iw_X7 wfX7_102 (D 64 (108, .getfield 102, 3) rfl) (v := .int (nI m)) (congrArg Value.int h15) ?_
                    refine cv_if_eqN C (pc' := 114) rfl (by omega) (tgt := 131) (D 65 (111, .ifCond .eq 20, 3) rfl) (by decide) (fun b111 => ?_) (fun b111 => ?_)
                    · skip
                      refine cv_aload_n C (pc' := 132) rfl (D 74 (131, .aload_n 0, 1) rfl) rfl (j := 0) rfl ?_
                      refine cv_iload_n C (pc' := 133) rfl (D 75 (132, .iload_n 1, 1) rfl) rfl (j := 1) rfl ?_
                      refine cv_bipush C (pc' := 135) rfl (D 76 (133, .bipush 44, 2) rfl) (v := nI 44) (by decide) ?_
                      refine cv_callV C (pc' := 138) rfl (k0 := 0) (ci := 7) (As := [.int (nI (F + n)), .int (nI 44)]) (rest := []) (idx := 108) (np := 2) (kX7_isSign g n F (21 + 6 * m) 44 τ hTτ hAτ (by omega)) (by decide) rfl rfl rfl (by decide +kernel) rfl wmX7_108 wi_yX7_isSign ws_yX7_isSign wn_X7 wc_yX7_isSign (by decide) (by decide) (D 77 (135, .invokevirtual 108, 3) rfl) (Nat.le_of_ble_eq_true rfl) rfl (fun w135 u135 h135 => ?_)
                      rcases h135 with ⟨c135, e135, f135⟩ | ⟨c135, e135, f135⟩
                      · skip
                        rw [e135, f135]
                        show cv_At X _ _ (cv_u τ 0 14 (nI (F + (21 + 6 * m + 1)))) 138 _ [.int (nI 1)]
                        have k1 := cv_gn_s hgo ⟨c135.1, by rw [cv_go_p0 (by omega), decide_eq_true c135.2]⟩
                        have hle2 := cv_gn_le k1
                        refine cv_if_eq C (pc' := 141) rfl (tgt := 149) (D 78 (138, .ifCond .eq 11, 3) rfl) (by decide) (fun h => absurd h (by decide)) (fun _ => ?_)
                        refine cv_aload_n C (pc' := 142) rfl (D 79 (141, .aload_n 0, 1) rfl) rfl (j := 0) rfl ?_
                        refine cv_iload_n C (pc' := 143) rfl (D 80 (142, .iload_n 1, 1) rfl) rfl (j := 1) rfl ?_
                        refine cv_callV C (pc' := 146) rfl (k0 := 0) (ci := 7) (As := [.int (nI (F + n))]) (rest := []) (idx := 115) (np := 1) (kX7_readPass g n F (21 + 6 * m + 1) m (cv_u τ 0 14 (nI (F + (21 + 6 * m + 1)))) (cv_TQ_u (by decide) hTτ) cv_u_s (by omega) rfl (by omega) k1 ((cv_u_i (by omega)).trans h15)) (by decide) rfl rfl rfl (by decide +kernel) rfl wmX7_115 wi_yX7_readPass ws_yX7_readPass wn_X7 wc_yX7_readPass (by decide) (by decide) (D 81 (143, .invokevirtual 115, 3) rfl) (Nat.le_of_ble_eq_true rfl) rfl (fun w143 u143 h143 => ?_)
                        rcases h143 with ⟨e143, k2, t1, t2, t3, t4⟩ | ⟨e143, j, hj, t1, t4⟩
                        · skip
                          rw [e143]
                          have hFu143 : cv_fr μ u143 := cv_fr_q (cv_fr_0 hFτ (by decide)) t4
                          show cv_At X _ _ u143 146 _ [.int (nI 1)]
                          refine cv_if_ne C (pc' := 149) rfl (tgt := 107) (D 82 (146, .ifCond .ne (-39), 3) rfl) (by decide) (fun _ => ?_) (fun h => absurd h (by decide))
                          exact ih107 (m + 1) u143 (by omega) k2 t1 (fun q hq => by rw [t4.1 11 (by decide) (by decide), cv_u_c (by decide)]; exact hsn q hq) (fun q hq => by rw [t4.1 12 (by decide) (by decide), cv_u_c (by decide)]; exact hgs q hq) t2 (cv_ex (fun q hq i hi => by rw [t4.2.2 _ (by omega), cv_u_c (by decide)]; exact hps q hq i hi) t3) hFu143
                        · skip
                          rw [e143]
                          have hFu143 : cv_fr μ u143 := cv_fr_q (cv_fr_0 hFτ (by decide)) t4
                          show cv_At X _ _ u143 146 _ [.int (nI 0)]
                          refine cv_if_ne C (pc' := 149) rfl (tgt := 107) (D 82 (146, .ifCond .ne (-39), 3) rfl) (by decide) (fun h => absurd h (by decide)) (fun _ => ?_)
                          refine cv_iconst C (pc' := 150) rfl (D 83 (149, .iconst 0, 1) rfl) (v := nI 0) (by decide) ?_
                          exact cv_iret C Rt (by decide) (D 84 (150, .ireturn, 1) rfl) (Or.inr ⟨rfl, j, cv_FP_ff hj, t1, hFu143⟩)
                      · skip
                        rw [e135, f135]
                        show cv_At X _ _ τ 138 _ [.int (nI 0)]
                        refine cv_if_eq C (pc' := 141) rfl (tgt := 149) (D 78 (138, .ifCond .eq 11, 3) rfl) (by decide) (fun _ => ?_) (fun h => absurd h (by decide))
                        refine cv_iconst C (pc' := 150) rfl (D 83 (149, .iconst 0, 1) rfl) (v := nI 0) (by decide) ?_
                        exact cv_iret C Rt (by decide) (D 84 (150, .ireturn, 1) rfl) (Or.inr ⟨rfl, (21 + 6 * m), cv_FP_ff (cv_FP_mk hgo (fun h => c135 ⟨h.1, of_decide_eq_true (by rw [← cv_go_p0 (by omega)]; exact h.2)⟩) (by omega)), hAτ, hFτ⟩)
                    · skip
                      refine cv_aload_n C (pc' := 115) rfl (D 66 (114, .aload_n 0, 1) rfl) rfl (j := 0) rfl ?_
                      refine cv_get C (pc' := 118) rfl (k0 := 0) (i := 15) (ci := 7) (by decide) rfl rfl (by decide) (o := none) rfl iw_X7 wfX7_102 (D 67 (115, .getfield 102, 3) rfl) (v := .int (nI m)) (congrArg Value.int h15) ?_
                      refine cv_bipush C (pc' := 120) rfl (D 68 (118, .bipush 6, 2) rfl) (v := nI 6) (by decide) ?_
                      refine cv_icmp_geN C (pc' := 123) rfl (by omega) (by omega) (tgt := 151) (D 69 (120, .if_icmp .ge 31, 3) rfl) (by decide) (fun b120 => ?_) (fun b120 => ?_)
                      · skip
                        omega
                      · skip
                        refine cv_aload_n C (pc' := 124) rfl (D 70 (123, .aload_n 0, 1) rfl) rfl (j := 0) rfl ?_
                        refine cv_get C (pc' := 127) rfl (k0 := 0) (i := 14) (ci := 7) (by decide) rfl rfl (by decide) (o := none) rfl iw_X7 wfX7_74 (D 71 (124, .getfield 74, 3) rfl) (v := .int (nI (F + (21 + 6 * m)))) (congrArg Value.int hAτ) ?_
                        refine cv_iload_n C (pc' := 128) rfl (D 72 (127, .iload_n 1, 1) rfl) rfl (j := 1) rfl ?_
                        refine cv_icmp_geN C (pc' := 131) rfl (by omega) (by omega) (tgt := 151) (D 73 (128, .if_icmp .ge 23, 3) rfl) (by decide) (fun b128 => ?_) (fun b128 => ?_)
                        · skip
                          refine cv_aload_n C (pc' := 152) rfl (D 85 (151, .aload_n 0, 1) rfl) rfl (j := 0) rfl ?_
                          refine cv_get C (pc' := 155) rfl (k0 := 0) (i := 14) (ci := 7) (by decide) rfl rfl (by decide) (o := none) rfl iw_X7 wfX7_74 (D 86 (152, .getfield 74, 3) rfl) (v := .int (nI (F + (21 + 6 * m)))) (congrArg Value.int hAτ) ?_
                          refine cv_iload_n C (pc' := 156) rfl (D 87 (155, .iload_n 1, 1) rfl) rfl (j := 1) rfl ?_
                          refine cv_icmp_neN C (pc' := 159) rfl (by omega) (by omega) (tgt := 163) (D 88 (156, .if_icmp .ne 7, 3) rfl) (by decide) (fun b156 => ?_) (fun b156 => ?_)
                          · skip
                            refine cv_iconst C (pc' := 164) rfl (D 91 (163, .iconst 0, 1) rfl) (v := nI 0) (by decide) ?_
                            exact cv_iret C Rt (by decide) (D 92 (164, .ireturn, 1) rfl) (Or.inr ⟨rfl, 21 + 6 * m, cv_FP_ff (cv_FP_mk hgo (fun h => by have := h.2; rw [show 21 + 6 * m = 57 by omega, cv_go_57] at this; cases this) (by omega)), hAτ, hFτ⟩)
                          · skip
                            refine cv_iconst C (pc' := 160) rfl (D 89 (159, .iconst 1, 1) rfl) (v := nI 1) (by decide) ?_
                            refine cv_goto C (tgt := 164) (D 90 (160, .goto 4, 3) rfl) (by decide) ?_
                            exact cv_iret C Rt (by decide) (D 92 (164, .ireturn, 1) rfl) (by have hnm : n = 21 + 6 * m := (by omega); exact Or.inl ⟨rfl, cv_ff_w hgo hnm (by omega), ⟨hsn, hgs, by rw [cv_tl7 hnm]; exact h15, by rw [cv_tl7 hnm]; exact hps⟩, hFτ⟩)
                        · skip
                          refine cv_aload_n C (pc' := 132) rfl (D 74 (131, .aload_n 0, 1) rfl) rfl (j := 0) rfl ?_
                          refine cv_iload_n C (pc' := 133) rfl (D 75 (132, .iload_n 1, 1) rfl) rfl (j := 1) rfl ?_
                          refine cv_bipush C (pc' := 135) rfl (D 76 (133, .bipush 44, 2) rfl) (v := nI 44) (by decide) ?_
                          refine cv_callV C (pc' := 138) rfl (k0 := 0) (ci := 7) (As := [.int (nI (F + n)), .int (nI 44)]) (rest := []) (idx := 108) (np := 2) (kX7_isSign g n F (21 + 6 * m) 44 τ hTτ hAτ (by omega)) (by decide) rfl rfl rfl (by decide +kernel) rfl wmX7_108 wi_yX7_isSign ws_yX7_isSign wn_X7 wc_yX7_isSign (by decide) (by decide) (D 77 (135, .invokevirtual 108, 3) rfl) (Nat.le_of_ble_eq_true rfl) rfl (fun w135 u135 h135 => ?_)
                          rcases h135 with ⟨c135, e135, f135⟩ | ⟨c135, e135, f135⟩
                          · skip
                            rw [e135, f135]
                            show cv_At X _ _ (cv_u τ 0 14 (nI (F + (21 + 6 * m + 1)))) 138 _ [.int (nI 1)]
                            have k1 := cv_gn_s hgo ⟨c135.1, by rw [cv_go_p0 (by omega), decide_eq_true c135.2]⟩
                            have hle2 := cv_gn_le k1
                            refine cv_if_eq C (pc' := 141) rfl (tgt := 149) (D 78 (138, .ifCond .eq 11, 3) rfl) (by decide) (fun h => absurd h (by decide)) (fun _ => ?_)
                            refine cv_aload_n C (pc' := 142) rfl (D 79 (141, .aload_n 0, 1) rfl) rfl (j := 0) rfl ?_
                            refine cv_iload_n C (pc' := 143) rfl (D 80 (142, .iload_n 1, 1) rfl) rfl (j := 1) rfl ?_
                            refine cv_callV C (pc' := 146) rfl (k0 := 0) (ci := 7) (As := [.int (nI (F + n))]) (rest := []) (idx := 115) (np := 1) (kX7_readPass g n F (21 + 6 * m + 1) m (cv_u τ 0 14 (nI (F + (21 + 6 * m + 1)))) (cv_TQ_u (by decide) hTτ) cv_u_s (by omega) rfl (by omega) k1 ((cv_u_i (by omega)).trans h15)) (by decide) rfl rfl rfl (by decide +kernel) rfl wmX7_115 wi_yX7_readPass ws_yX7_readPass wn_X7 wc_yX7_readPass (by decide) (by decide) (D 81 (143, .invokevirtual 115, 3) rfl) (Nat.le_of_ble_eq_true rfl) rfl (fun w143 u143 h143 => ?_)
                            rcases h143 with ⟨e143, k2, t1, t2, t3, t4⟩ | ⟨e143, j, hj, t1, t4⟩
                            · skip
                              rw [e143]
                              have hFu143 : cv_fr μ u143 := cv_fr_q (cv_fr_0 hFτ (by decide)) t4
                              show cv_At X _ _ u143 146 _ [.int (nI 1)]
                              refine cv_if_ne C (pc' := 149) rfl (tgt := 107) (D 82 (146, .ifCond .ne (-39), 3) rfl) (by decide) (fun _ => ?_) (fun h => absurd h (by decide))
                              exact ih107 (m + 1) u143 (by omega) k2 t1 (fun q hq => by rw [t4.1 11 (by decide) (by decide), cv_u_c (by decide)]; exact hsn q hq) (fun q hq => by rw [t4.1 12 (by decide) (by decide), cv_u_c (by decide)]; exact hgs q hq) t2 (cv_ex (fun q hq i hi => by rw [t4.2.2 _ (by omega), cv_u_c (by decide)]; exact hps q hq i hi) t3) hFu143
                            · skip
                              rw [e143]
                              have hFu143 : cv_fr μ u143 := cv_fr_q (cv_fr_0 hFτ (by decide)) t4
                              show cv_At X _ _ u143 146 _ [.int (nI 0)]
                              refine cv_if_ne C (pc' := 149) rfl (tgt := 107) (D 82 (146, .ifCond .ne (-39), 3) rfl) (by decide) (fun h => absurd h (by decide)) (fun _ => ?_)
                              refine cv_iconst C (pc' := 150) rfl (D 83 (149, .iconst 0, 1) rfl) (v := nI 0) (by decide) ?_
                              exact cv_iret C Rt (by decide) (D 84 (150, .ireturn, 1) rfl) (Or.inr ⟨rfl, j, cv_FP_ff hj, t1, hFu143⟩)
                          · skip
                            rw [e135, f135]
                            show cv_At X _ _ τ 138 _ [.int (nI 0)]
                            refine cv_if_eq C (pc' := 141) rfl (tgt := 149) (D 78 (138, .ifCond .eq 11, 3) rfl) (by decide) (fun _ => ?_) (fun h => absurd h (by decide))
                            refine cv_iconst C (pc' := 150) rfl (D 83 (149, .iconst 0, 1) rfl) (v := nI 0) (by decide) ?_
                            exact cv_iret C Rt (by decide) (D 84 (150, .ireturn, 1) rfl) (Or.inr ⟨rfl, (21 + 6 * m), cv_FP_ff (cv_FP_mk hgo (fun h => c135 ⟨h.1, of_decide_eq_true (by rw [← cv_go_p0 (by omega)]; exact h.2)⟩) (by omega)), hAτ, hFτ⟩)
                refine cv_pick [1, 2] (lv' := [(0, .ref 0), (1, .int (nI (F + n)))]) rfl ?_
                exact LP107 6 0 τ (by decide) (fun i hi => hgo i (by omega)) (by rw [hAτ, hv3]) hsn (fun i hi => hgs i (by omega)) h15 (fun q hq => by omega) hFτ
              · skip
                omega
            | succ r ih60 =>
              intro v τ hr hgo hAτ hsn hgs h15 hFτ
              have hTτ := cv_TQ_3 (hFτ.1 3 (by decide) (by decide)) hT
              have hle := cv_gn_le hgo
              refine cv_iload_n C (pc' := 61) rfl (D 36 (60, .iload_n 2, 1) rfl) rfl (j := 0) rfl ?_
              refine cv_iconst C (pc' := 62) rfl (D 37 (61, .iconst 3, 1) rfl) (v := nI 3) (by decide) ?_
              refine cv_icmp_geN C (pc' := 65) rfl (by omega) (by omega) (tgt := 107) (D 38 (62, .if_icmp .ge 45, 3) rfl) (by decide) (fun b62 => ?_) (fun b62 => ?_)
              · skip
                omega
              · skip
                refine cv_aload_n C (pc' := 66) rfl (D 39 (65, .aload_n 0, 1) rfl) rfl (j := 1) rfl ?_
                refine cv_iload_n C (pc' := 67) rfl (D 40 (66, .iload_n 1, 1) rfl) rfl (j := 2) rfl ?_
                refine cv_bipush C (pc' := 69) rfl (D 41 (67, .bipush 59, 2) rfl) (v := nI 59) (by decide) ?_
                refine cv_callV C (pc' := 72) rfl (k0 := 0) (ci := 7) (As := [.int (nI (F + n)), .int (nI 59)]) (rest := []) (idx := 108) (np := 2) (kX7_isSign g n F (9 + 4 * v) 59 τ hTτ hAτ (by omega)) (by decide) rfl rfl rfl (by decide +kernel) rfl wmX7_108 wi_yX7_isSign ws_yX7_isSign wn_X7 wc_yX7_isSign (by decide) (by decide) (D 42 (69, .invokevirtual 108, 3) rfl) (Nat.le_of_ble_eq_true rfl) rfl (fun w69 u69 h69 => ?_)
                rcases h69 with ⟨c69, e69, f69⟩ | ⟨c69, e69, f69⟩
                · skip
                  rw [e69, f69]
                  show cv_At X _ _ (cv_u τ 0 14 (nI (F + (9 + 4 * v + 1)))) 72 _ [.int (nI 1)]
                  have k1 := cv_gn_s hgo ⟨c69.1, by rw [cv_go_g0 (by omega), decide_eq_true c69.2]⟩
                  have hle2 := cv_gn_le k1
                  refine cv_if_ne C (pc' := 75) rfl (tgt := 77) (D 43 (72, .ifCond .ne 5, 3) rfl) (by decide) (fun _ => ?_) (fun h => absurd h (by decide))
                  refine cv_aload_n C (pc' := 78) rfl (D 46 (77, .aload_n 0, 1) rfl) rfl (j := 1) rfl ?_
                  refine cv_get C (pc' := 81) rfl (k0 := 0) (i := 17) (ci := 7) (by decide) rfl rfl (by decide) (o := some 12) rfl iw_X7 wfX7_47 (D 47 (78, .getfield 47, 3) rfl) rfl ?_
                  refine cv_iload_n C (pc' := 82) rfl (D 48 (81, .iload_n 2, 1) rfl) rfl (j := 0) rfl ?_
                  refine cv_aload_n C (pc' := 83) rfl (D 49 (82, .aload_n 0, 1) rfl) rfl (j := 1) rfl ?_
                  refine cv_iload_n C (pc' := 84) rfl (D 50 (83, .iload_n 1, 1) rfl) rfl (j := 2) rfl ?_
                  refine cv_callV C (pc' := 87) rfl (k0 := 0) (ci := 7) (As := [.int (nI (F + n))]) (rest := [.int (nI v), .ref 12]) (idx := 112) (np := 1) (kX7_readSet g n F (9 + 4 * v + 1) v (cv_u τ 0 14 (nI (F + (9 + 4 * v + 1)))) (cv_TQ_u (by decide) hTτ) cv_u_s (by omega) rfl (by omega) k1) (by decide) rfl rfl rfl (by decide +kernel) rfl wmX7_112 wi_yX7_readSet ws_yX7_readSet wn_X7 wc_yX7_readSet (by decide) (by decide) (D 51 (84, .invokevirtual 112, 3) rfl) (Nat.le_of_ble_eq_true rfl) rfl (fun w84 u84 h84 => ?_)
                  rcases h84 with ⟨e84, k2, f84⟩ | ⟨e84, j, hj, f84⟩
                  · skip
                    rw [e84, f84]
                    have hgv := cv_tl6_b k2 (by omega)
                    rw [cv_uu]
                    show cv_At X _ _ (cv_u τ 0 14 (nI (F + (9 + 4 * (v + 1))))) 87 _ [.int (nI (cv_tl g n 6 v)), .int (nI v), .ref 12]
                    refine cv_iast C (pc' := 88) rfl (k0 := 12) (j := v) (by decide) rfl rfl (by omega) (by decide) (D 52 (87, .iastore, 1) rfl) ?_
                    refine cv_aload_n C (pc' := 89) rfl (D 53 (88, .aload_n 0, 1) rfl) rfl (j := 1) rfl ?_
                    refine cv_get C (pc' := 92) rfl (k0 := 0) (i := 17) (ci := 7) (by decide) rfl rfl (by decide) (o := some 12) rfl iw_X7 wfX7_47 (D 54 (89, .getfield 47, 3) rfl) rfl ?_
                    refine cv_iload_n C (pc' := 93) rfl (D 55 (92, .iload_n 2, 1) rfl) rfl (j := 0) rfl ?_
                    refine cv_iald C (pc' := 94) rfl (k0 := 12) (j := v) (by decide) rfl rfl (by omega) (by decide) (D 56 (93, .iaload, 1) rfl) (v := nI (cv_tl g n 6 v)) cv_u_s ?_
                    refine cv_bipush C (pc' := 96) rfl (D 57 (94, .bipush (-9), 2) rfl) (v := -9) (by decide) ?_
                    refine cv_icmp_ne C (pc' := 99) rfl (tgt := 101) (D 58 (96, .if_icmp .ne 5, 3) rfl) (by decide) (fun b96 => ?_) (fun b96 => ?_)
                    · skip
                      refine cv_iincN C (pc' := 104) rfl (D 61 (101, .iinc 2 1, 3) rfl) (j := 0) rfl (by decide) (lv' := [(2, .int (nI (v + 1))), (0, .ref 0), (1, .int (nI (F + n)))]) rfl ?_
                      refine cv_goto C (tgt := 60) (D 62 (104, .goto (-44), 3) rfl) (by decide) ?_
                      exact ih60 (v + 1) (cv_u (cv_u τ 0 14 (nI (F + (9 + 4 * (v + 1))))) 12 v (nI (cv_tl g n 6 v))) (by omega) k2 ((congrFun (cv_u_c (by omega)) _).trans cv_u_s) (fun q hq => by rw [cv_u_c (by decide), cv_u_c (by decide)]; exact hsn q hq) (cv_ex (fun q hq => by rw [cv_u_i (by omega), cv_u_c (by decide)]; exact hgs q hq) (cv_u_s)) ((congrFun (cv_u_c (by omega)) _).trans ((cv_u_i (by omega)).trans h15)) (cv_fr_k (cv_fr_0 hFτ (by decide)) (by decide))
                    · skip
                      exact absurd b96 (cv_m9 (by omega))
                  · skip
                    rw [e84, f84]
                    rw [cv_uu]
                    show cv_At X _ _ (cv_u τ 0 14 (nI (F + j))) 87 _ [.int (-9), .int (nI v), .ref 12]
                    refine cv_iast C (pc' := 88) rfl (k0 := 12) (j := v) (by decide) rfl rfl (by omega) (by decide) (D 52 (87, .iastore, 1) rfl) ?_
                    refine cv_aload_n C (pc' := 89) rfl (D 53 (88, .aload_n 0, 1) rfl) rfl (j := 1) rfl ?_
                    refine cv_get C (pc' := 92) rfl (k0 := 0) (i := 17) (ci := 7) (by decide) rfl rfl (by decide) (o := some 12) rfl iw_X7 wfX7_47 (D 54 (89, .getfield 47, 3) rfl) rfl ?_
                    refine cv_iload_n C (pc' := 93) rfl (D 55 (92, .iload_n 2, 1) rfl) rfl (j := 0) rfl ?_
                    refine cv_iald C (pc' := 94) rfl (k0 := 12) (j := v) (by decide) rfl rfl (by omega) (by decide) (D 56 (93, .iaload, 1) rfl) (v := -9) cv_u_s ?_
                    refine cv_bipush C (pc' := 96) rfl (D 57 (94, .bipush (-9), 2) rfl) (v := -9) (by decide) ?_
                    refine cv_icmp_ne C (pc' := 99) rfl (tgt := 101) (D 58 (96, .if_icmp .ne 5, 3) rfl) (by decide) (fun h => absurd h (by decide)) (fun _ => ?_)
                    refine cv_iconst C (pc' := 100) rfl (D 59 (99, .iconst 0, 1) rfl) (v := nI 0) (by decide) ?_
                    exact cv_iret C Rt (by decide) (D 60 (100, .ireturn, 1) rfl) (Or.inr ⟨rfl, j, cv_FP_ff hj, ((congrFun (cv_u_c (by omega)) _).trans cv_u_s), (cv_fr_k (cv_fr_0 hFτ (by decide)) (by decide))⟩)
                · skip
                  rw [e69, f69]
                  show cv_At X _ _ τ 72 _ [.int (nI 0)]
                  refine cv_if_ne C (pc' := 75) rfl (tgt := 77) (D 43 (72, .ifCond .ne 5, 3) rfl) (by decide) (fun h => absurd h (by decide)) (fun _ => ?_)
                  refine cv_iconst C (pc' := 76) rfl (D 44 (75, .iconst 0, 1) rfl) (v := nI 0) (by decide) ?_
                  exact cv_iret C Rt (by decide) (D 45 (76, .ireturn, 1) rfl) (Or.inr ⟨rfl, (9 + 4 * v), cv_FP_ff (cv_FP_mk hgo (fun h => c69 ⟨h.1, of_decide_eq_true (by rw [← cv_go_g0 (by omega)]; exact h.2)⟩) (by omega)), hAτ, hFτ⟩)
          exact LP60 3 0 τ (by decide) (fun i hi => hgo i (by omega)) (by rw [hAτ, hd8]) (fun i hi => hsn i (by omega)) (fun i hi => by omega) h15 hFτ
        · skip
          omega
      | succ r ih19 =>
        intro d τ hr hgo hAτ hsn h15 hFτ
        have hTτ := cv_TQ_3 (hFτ.1 3 (by decide) (by decide)) hT
        have hle := cv_gn_le hgo
        refine cv_iload_n C (pc' := 20) rfl (D 12 (19, .iload_n 2, 1) rfl) rfl (j := 0) rfl ?_
        refine cv_bipush C (pc' := 22) rfl (D 13 (20, .bipush 8, 2) rfl) (v := nI 8) (by decide) ?_
        refine cv_icmp_geN C (pc' := 25) rfl (by omega) (by omega) (tgt := 58) (D 14 (22, .if_icmp .ge 36, 3) rfl) (by decide) (fun b22 => ?_) (fun b22 => ?_)
        · skip
          omega
        · skip
          refine cv_aload_n C (pc' := 26) rfl (D 15 (25, .aload_n 0, 1) rfl) rfl (j := 1) rfl ?_
          refine cv_get C (pc' := 29) rfl (k0 := 0) (i := 16) (ci := 7) (by decide) rfl rfl (by decide) (o := some 11) rfl iw_X7 wfX7_44 (D 16 (26, .getfield 44, 3) rfl) rfl ?_
          refine cv_iload_n C (pc' := 30) rfl (D 17 (29, .iload_n 2, 1) rfl) rfl (j := 0) rfl ?_
          refine cv_aload_n C (pc' := 31) rfl (D 18 (30, .aload_n 0, 1) rfl) rfl (j := 1) rfl ?_
          refine cv_iload_n C (pc' := 32) rfl (D 19 (31, .iload_n 1, 1) rfl) rfl (j := 2) rfl ?_
          refine cv_iconst C (pc' := 33) rfl (D 20 (32, .iconst 0, 1) rfl) (v := nI 0) (by decide) ?_
          refine cv_bipush C (pc' := 35) rfl (D 21 (33, .bipush 9, 2) rfl) (v := nI 9) (by decide) ?_
          refine cv_callV C (pc' := 38) rfl (k0 := 0) (ci := 7) (As := [.int (nI (F + n)), .int (nI 0), .int (nI 9)]) (rest := [.int (nI d), .ref 11]) (idx := 77) (np := 3) (kX7_digit g n F (1 + d) 0 9 τ hTτ hAτ (by omega) (by decide) (by decide)) (by decide) rfl rfl rfl (by decide +kernel) rfl wmX7_77 wi_yX7_digit ws_yX7_digit wn_X7 wc_yX7_digit (by decide) (by decide) (D 22 (35, .invokevirtual 77, 3) rfl) (Nat.le_of_ble_eq_true rfl) rfl (fun w35 u35 h35 => ?_)
          rcases h35 with ⟨c35, e35, f35⟩ | ⟨c35, e35, f35⟩
          · skip
            rw [e35, f35]
            show cv_At X _ _ (cv_u τ 0 14 (nI (F + (1 + d + 1)))) 38 _ [.int (nI (cv_dt g (1 + d))), .int (nI d), .ref 11]
            obtain ⟨q35, r35, s35⟩ := cv_dt_of (g := g) (p := 1 + d) (lo := 0) (hi := 9) (by decide) (by decide) c35.2
            have k1 := cv_gn_s hgo ⟨c35.1, by rw [cv_go_d (by omega)]; exact c35.2⟩
            refine cv_iast C (pc' := 39) rfl (k0 := 11) (j := d) (by decide) rfl rfl (by omega) (by decide) (D 23 (38, .iastore, 1) rfl) ?_
            refine cv_aload_n C (pc' := 40) rfl (D 24 (39, .aload_n 0, 1) rfl) rfl (j := 1) rfl ?_
            refine cv_get C (pc' := 43) rfl (k0 := 0) (i := 16) (ci := 7) (by decide) rfl rfl (by decide) (o := some 11) rfl iw_X7 wfX7_44 (D 25 (40, .getfield 44, 3) rfl) rfl ?_
            refine cv_iload_n C (pc' := 44) rfl (D 26 (43, .iload_n 2, 1) rfl) rfl (j := 0) rfl ?_
            refine cv_iald C (pc' := 45) rfl (k0 := 11) (j := d) (by decide) rfl rfl (by omega) (by decide) (D 27 (44, .iaload, 1) rfl) (v := nI (cv_dt g (1 + d))) cv_u_s ?_
            refine cv_bipush C (pc' := 47) rfl (D 28 (45, .bipush (-9), 2) rfl) (v := -9) (by decide) ?_
            refine cv_icmp_ne C (pc' := 50) rfl (tgt := 52) (D 29 (47, .if_icmp .ne 5, 3) rfl) (by decide) (fun b47 => ?_) (fun b47 => ?_)
            · skip
              refine cv_iincN C (pc' := 55) rfl (D 32 (52, .iinc 2 1, 3) rfl) (j := 0) rfl (by decide) (lv' := [(2, .int (nI (d + 1))), (0, .ref 0), (1, .int (nI (F + n)))]) rfl ?_
              refine cv_goto C (tgt := 19) (D 33 (55, .goto (-36), 3) rfl) (by decide) ?_
              exact ih19 (d + 1) (cv_u (cv_u τ 0 14 (nI (F + (1 + d + 1)))) 11 d (nI (cv_dt g (1 + d)))) (by omega) k1 ((congrFun (cv_u_c (by omega)) _).trans cv_u_s) (cv_ex (fun q hq => by rw [cv_u_i (by omega), cv_u_c (by decide)]; exact hsn q hq) ((cv_u_s).trans rfl)) ((congrFun (cv_u_c (by omega)) _).trans ((cv_u_i (by omega)).trans h15)) (cv_fr_k (cv_fr_0 hFτ (by decide)) (by decide))
            · skip
              exact absurd b47 (cv_m9 (by omega))
          · skip
            rw [e35, f35]
            show cv_At X _ _ τ 38 _ [.int (-9), .int (nI d), .ref 11]
            refine cv_iast C (pc' := 39) rfl (k0 := 11) (j := d) (by decide) rfl rfl (by omega) (by decide) (D 23 (38, .iastore, 1) rfl) ?_
            refine cv_aload_n C (pc' := 40) rfl (D 24 (39, .aload_n 0, 1) rfl) rfl (j := 1) rfl ?_
            refine cv_get C (pc' := 43) rfl (k0 := 0) (i := 16) (ci := 7) (by decide) rfl rfl (by decide) (o := some 11) rfl iw_X7 wfX7_44 (D 25 (40, .getfield 44, 3) rfl) rfl ?_
            refine cv_iload_n C (pc' := 44) rfl (D 26 (43, .iload_n 2, 1) rfl) rfl (j := 0) rfl ?_
            refine cv_iald C (pc' := 45) rfl (k0 := 11) (j := d) (by decide) rfl rfl (by omega) (by decide) (D 27 (44, .iaload, 1) rfl) (v := -9) cv_u_s ?_
            refine cv_bipush C (pc' := 47) rfl (D 28 (45, .bipush (-9), 2) rfl) (v := -9) (by decide) ?_
            refine cv_icmp_ne C (pc' := 50) rfl (tgt := 52) (D 29 (47, .if_icmp .ne 5, 3) rfl) (by decide) (fun h => absurd h (by decide)) (fun _ => ?_)
            refine cv_iconst C (pc' := 51) rfl (D 30 (50, .iconst 0, 1) rfl) (v := nI 0) (by decide) ?_
            exact cv_iret C Rt (by decide) (D 31 (51, .ireturn, 1) rfl) (Or.inr ⟨rfl, (1 + d), cv_FP_ff (cv_FP_mk hgo (fun h => c35 ⟨h.1, by rw [← cv_go_d (by omega)]; exact h.2⟩) (by omega)), ((congrFun (cv_u_c (by omega)) _).trans hAτ), (cv_fr_k hFτ (by decide))⟩)
    exact LP19 8 0 _ (by decide) k0 cv_u_s (fun i hi => by omega) ((cv_u_i (by omega)).trans cv_u_s) (cv_fr_0 (cv_fr_0 (cv_fr_r μ) (by decide)) (by decide))
  · skip
    rw [e9, f9]
    show cv_At X _ _ (cv_u μ 0 15 (nI 0)) 12 _ [.int (nI 0)]
    refine cv_if_ne C (pc' := 15) rfl (tgt := 17) (D 7 (12, .ifCond .ne 5, 3) rfl) (by decide) (fun h => absurd h (by decide)) (fun _ => ?_)
    refine cv_iconst C (pc' := 16) rfl (D 8 (15, .iconst 0, 1) rfl) (v := nI 0) (by decide) ?_
    exact cv_iret C Rt (by decide) (D 9 (16, .ireturn, 1) rfl) (Or.inr ⟨rfl, 0, cv_FP_ff (cv_FP_mk (fun i hi => by omega) (fun h => c9 ⟨h.1, of_decide_eq_true h.2⟩) (by omega)), ((cv_u_i (by omega)).trans hA), (cv_fr_0 (cv_fr_r μ) (by decide))⟩)

