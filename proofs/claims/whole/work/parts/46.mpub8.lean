theorem cv_lz0 {y : Nat} (hy : y < 2 ^ 31) : lg_cmp (lN y) 0 = 0 ↔ y = 0 := by
  rw [lg_cmp_eq]
  exact pk_lEQ (a := y) (b := 0) (by omega) (by omega)
theorem cv_lzn {y : Nat} (h0 : 0 < y) (hy : y < 2 ^ 31) : ¬ lN y = 0 := fun h => by
  have := (pk_lEQ (a := y) (b := 0) (by omega) (by omega)).mp h
  omega
set_option maxHeartbeats 4000000 in
set_option maxRecDepth 100000 in
theorem kX7_inLeastTerms {n : Nat} {sh : Nat → cv_Sh} (u t w : Nat) (μ : cv_St) (hu : u < 2 ^ 31) (ht : t < 2 ^ 31) (ht0 : 0 < t) (hw : w < 2) : cv_Ct yX7_inLeastTerms cX7_inLeastTerms 11 (some .long) 0 0 0 n sh [.long (lN u), .long (lN t), .int (nI w)] μ (cv_pu (.long (if w = 0 then lN (u / Nat.gcd u t) else lN (t / Nat.gcd u t))) μ) := by
  refine cv_enter (own := RX7) (by decide) rfl (Nat.le_of_ble_eq_true rfl) ?_
  intro X a C Rt hRm
  have D := @cv_dec _ _ dkX7_inLeastTerms
  show cv_At X _ _ μ 0 [(0, .long (lN u)), (2, .long (lN t)), (4, .int (nI w))] []
  refine cv_lload_n C (pc' := 1) rfl (D 0 (0, .lload_n 0, 1) rfl) rfl (j := 0) rfl ?_
  refine cv_lstore C (pc' := 3) rfl (D 1 (1, .lstore 5, 2) rfl) (by decide) (lv' := [(5, .long (lN u)), (0, .long (lN u)), (2, .long (lN t)), (4, .int (nI w))]) rfl ?_
  refine cv_lload_n C (pc' := 4) rfl (D 2 (3, .lload_n 2, 1) rfl) rfl (j := 2) rfl ?_
  refine cv_lstore C (pc' := 6) rfl (D 3 (4, .lstore 7, 2) rfl) (by decide) (lv' := [(7, .long (lN t)), (5, .long (lN u)), (0, .long (lN u)), (2, .long (lN t)), (4, .int (nI w))]) rfl ?_
  have LP6 : ∀ (r : Nat) (xx : Nat) (yy : Nat), (yy ≤ r) → (xx < 2 ^ 31) → (yy < 2 ^ 31) → (Nat.gcd xx yy = Nat.gcd u t) → cv_At X (n, sh, 0, 0, a) 11 μ 6 [(7, .long (lN yy)), (5, .long (lN xx)), (0, .long (lN u)), (2, .long (lN t)), (4, .int (nI w))] [] := by
    intro r
    induction r with
    | zero =>
      intro xx yy hr hx hy hg
      refine cv_lload C (pc' := 8) rfl (D 4 (6, .lload 7, 2) rfl) (j := 0) rfl ?_
      refine cv_lconst C (pc' := 9) rfl (D 5 (8, .lconst 0, 1) rfl) (v := 0) (by decide) ?_
      refine cv_lcmp C (pc' := 10) rfl (D 6 (9, .lcmp, 1) rfl) ?_
      refine cv_if_eq C (pc' := 13) rfl (tgt := 31) (D 7 (10, .ifCond .eq 21, 3) rfl) (by decide) (fun b10 => ?_) (fun b10 => ?_)
      · skip
        have hyz := (cv_lz0 hy).mp b10
        subst hyz
        have hxe : xx = Nat.gcd u t := by rw [← hg, Nat.gcd_zero_right]
        have hx0 : 0 < xx := by rw [hxe]; exact Nat.gcd_pos_of_pos_right u ht0
        refine cv_iload C (pc' := 33) rfl (D 17 (31, .iload 4, 2) rfl) (j := 4) rfl ?_
        refine cv_if_neN C (pc' := 36) rfl (by omega) (tgt := 43) (D 18 (33, .ifCond .ne 10, 3) rfl) (by decide) (fun b33 => ?_) (fun b33 => ?_)
        · skip
          refine cv_lload_n C (pc' := 44) rfl (D 23 (43, .lload_n 2, 1) rfl) rfl (j := 3) rfl ?_
          refine cv_lload C (pc' := 46) rfl (D 24 (44, .lload 5, 2) rfl) (j := 1) rfl ?_
          refine cv_ldiv C (pc' := 47) rfl (D 25 (46, .ldiv, 1) rfl) (cv_lzn hx0 hx) ?_
          exact cv_lret C Rt (D 26 (47, .lreturn, 1) rfl) ⟨congrArg (fun z => some (Value.long z)) (by rw [pk_lDiv (by omega) hx0 (by omega), if_neg (by omega), hxe]), rfl⟩
        · skip
          refine cv_lload_n C (pc' := 37) rfl (D 19 (36, .lload_n 0, 1) rfl) rfl (j := 2) rfl ?_
          refine cv_lload C (pc' := 39) rfl (D 20 (37, .lload 5, 2) rfl) (j := 1) rfl ?_
          refine cv_ldiv C (pc' := 40) rfl (D 21 (39, .ldiv, 1) rfl) (cv_lzn hx0 hx) ?_
          refine cv_goto C (tgt := 47) (D 22 (40, .goto 7, 3) rfl) (by decide) ?_
          exact cv_lret C Rt (D 26 (47, .lreturn, 1) rfl) ⟨congrArg (fun z => some (Value.long z)) (by rw [pk_lDiv (by omega) hx0 (by omega), if_pos b33, hxe]), rfl⟩
      · skip
        exact absurd ((cv_lz0 hy).mpr (by omega)) b10
    | succ r ih6 =>
      intro xx yy hr hx hy hg
      refine cv_lload C (pc' := 8) rfl (D 4 (6, .lload 7, 2) rfl) (j := 0) rfl ?_
      refine cv_lconst C (pc' := 9) rfl (D 5 (8, .lconst 0, 1) rfl) (v := 0) (by decide) ?_
      refine cv_lcmp C (pc' := 10) rfl (D 6 (9, .lcmp, 1) rfl) ?_
      refine cv_if_eq C (pc' := 13) rfl (tgt := 31) (D 7 (10, .ifCond .eq 21, 3) rfl) (by decide) (fun b10 => ?_) (fun b10 => ?_)
      · skip
        have hyz := (cv_lz0 hy).mp b10
        subst hyz
        have hxe : xx = Nat.gcd u t := by rw [← hg, Nat.gcd_zero_right]
        have hx0 : 0 < xx := by rw [hxe]; exact Nat.gcd_pos_of_pos_right u ht0
        refine cv_iload C (pc' := 33) rfl (D 17 (31, .iload 4, 2) rfl) (j := 4) rfl ?_
        refine cv_if_neN C (pc' := 36) rfl (by omega) (tgt := 43) (D 18 (33, .ifCond .ne 10, 3) rfl) (by decide) (fun b33 => ?_) (fun b33 => ?_)
        · skip
          refine cv_lload_n C (pc' := 44) rfl (D 23 (43, .lload_n 2, 1) rfl) rfl (j := 3) rfl ?_
          refine cv_lload C (pc' := 46) rfl (D 24 (44, .lload 5, 2) rfl) (j := 1) rfl ?_
          refine cv_ldiv C (pc' := 47) rfl (D 25 (46, .ldiv, 1) rfl) (cv_lzn hx0 hx) ?_
          exact cv_lret C Rt (D 26 (47, .lreturn, 1) rfl) ⟨congrArg (fun z => some (Value.long z)) (by rw [pk_lDiv (by omega) hx0 (by omega), if_neg (by omega), hxe]), rfl⟩
        · skip
          refine cv_lload_n C (pc' := 37) rfl (D 19 (36, .lload_n 0, 1) rfl) rfl (j := 2) rfl ?_
          refine cv_lload C (pc' := 39) rfl (D 20 (37, .lload 5, 2) rfl) (j := 1) rfl ?_
          refine cv_ldiv C (pc' := 40) rfl (D 21 (39, .ldiv, 1) rfl) (cv_lzn hx0 hx) ?_
          refine cv_goto C (tgt := 47) (D 22 (40, .goto 7, 3) rfl) (by decide) ?_
          exact cv_lret C Rt (D 26 (47, .lreturn, 1) rfl) ⟨congrArg (fun z => some (Value.long z)) (by rw [pk_lDiv (by omega) hx0 (by omega), if_pos b33, hxe]), rfl⟩
      · skip
        have hy0 : 0 < yy := Nat.pos_of_ne_zero (fun h => b10 ((cv_lz0 hy).mpr h))
        refine cv_lload C (pc' := 15) rfl (D 8 (13, .lload 5, 2) rfl) (j := 1) rfl ?_
        refine cv_lload C (pc' := 17) rfl (D 9 (15, .lload 7, 2) rfl) (j := 0) rfl ?_
        refine cv_lrem C (pc' := 18) rfl (D 10 (17, .lrem, 1) rfl) (cv_lzn hy0 hy) ?_
        rw [pk_lRem (by omega) hy0 (by omega)]
        refine cv_lstore C (pc' := 20) rfl (D 11 (18, .lstore 9, 2) rfl) (by decide) (lv' := [(9, .long (lN (xx % yy))), (7, .long (lN yy)), (5, .long (lN xx)), (0, .long (lN u)), (2, .long (lN t)), (4, .int (nI w))]) rfl ?_
        refine cv_lload C (pc' := 22) rfl (D 12 (20, .lload 7, 2) rfl) (j := 1) rfl ?_
        refine cv_lstore C (pc' := 24) rfl (D 13 (22, .lstore 5, 2) rfl) (by decide) (lv' := [(5, .long (lN yy)), (9, .long (lN (xx % yy))), (7, .long (lN yy)), (0, .long (lN u)), (2, .long (lN t)), (4, .int (nI w))]) rfl ?_
        refine cv_lload C (pc' := 26) rfl (D 14 (24, .lload 9, 2) rfl) (j := 1) rfl ?_
        refine cv_lstore C (pc' := 28) rfl (D 15 (26, .lstore 7, 2) rfl) (by decide) (lv' := [(7, .long (lN (xx % yy))), (5, .long (lN yy)), (9, .long (lN (xx % yy))), (0, .long (lN u)), (2, .long (lN t)), (4, .int (nI w))]) rfl ?_
        refine cv_goto C (tgt := 6) (D 16 (28, .goto (-22), 3) rfl) (by decide) ?_
        refine cv_pick [0, 1, 3, 4, 5] (lv' := [(7, .long (lN (xx % yy))), (5, .long (lN yy)), (0, .long (lN u)), (2, .long (lN t)), (4, .int (nI w))]) rfl ?_
        exact ih6 yy (xx % yy) (by have := Nat.mod_lt xx hy0; omega) hy (by have := Nat.mod_lt xx hy0; omega) (by rw [← hg, Nat.gcd_comm yy, ← Nat.gcd_rec, Nat.gcd_comm])
  exact LP6 t u t (Nat.le_refl _) hu ht rfl

theorem cv_in_12 {x : Int32} : decide (nI 1 ≤ x ∧ x ≤ nI 2) = true ↔ x = 1 ∨ x = 2 := by
  rw [decide_eq_true_iff]
  constructor
  · intro ⟨h1, h2⟩
    obtain ⟨i, hi, rfl⟩ := nI_of (Int32.not_lt.mpr (Int32.le_trans (by decide : (0 : Int32) ≤ nI 1) h1))
    have a := (nI_leI (by decide) hi).mp h1
    have b := (nI_leI hi (by decide)).mp h2
    rcases (by omega : i = 1 ∨ i = 2) with rfl | rfl
    · exact Or.inl rfl
    · exact Or.inr rfl
  · rintro (rfl | rfl) <;> decide
theorem cv_so_g1 (L : cv_L) (x : Int32) {k : Nat} (hk : 1 ≤ k) (a d r t : Nat) : cv_so (cv_lu L 6 k a) x d r t = cv_so L x d r t := by
  unfold cv_so
  have : cv_RT (cv_lu L 6 k a) (fun q => decide (nI q = x)) 8 = cv_RT L (fun q => decide (nI q = x)) 8 := funext (fun j => by rw [cv_RT_give])
  rw [this, cv_lu_i (by omega)]
def cv_oc (L : cv_L) (k d w i : Nat) : Bool := cv_can L (-1) d w (if k = 1 then i else L 6 1) (if k = 2 then i else L 6 2)
theorem cv_can_g1 {L : cv_L} (hB : cv_LB L) {k : Nat} (hk : k = 1 ∨ k = 2) (i d w : Nat) : cv_can (cv_lu L 6 k i) (-9) d w (cv_lu L 6 k i 6 1) (cv_lu L 6 k i 6 2) = cv_oc L k d w i := by
  unfold cv_oc
  rw [← cv_can_9 hB]
  unfold cv_can
  rw [cv_so_g1 L _ (by omega)]
  rcases hk with rfl | rfl
  · rw [cv_lu_s, cv_lu_i (by decide)]; rfl
  · rw [cv_lu_s, cv_lu_i (by decide)]; rfl
def cv_ob (L : cv_L) (k i : Nat) : Bool := decide (i &&& (L 6 k ^^^ 4294967295) = 0)
theorem cv_ct_eq (L : cv_L) (k : Nat) (h : L 6 k < 256) : cv_cnt (fun i => cv_ob L k i) 256 = 2 ^ cv_pc (L 6 k) := cv_ct_sub _ h
theorem cv_odn_eq (L : cv_L) (k d w : Nat) : cv_cnt (fun i => cv_ob L k i && cv_oc L k d w i) 256 = cv_odn L k d w := rfl
theorem cv_hv_g : ∀ k u, k ≤ 8 → u ≤ 2 ^ k → (cv_hv k u (2 ^ k)).1 = u / Nat.gcd u (2 ^ k) ∧ (cv_hv k u (2 ^ k)).2 = 2 ^ k / Nat.gcd u (2 ^ k) := by
  intro k
  induction k with
  | zero =>
    intro u _ _
    simp [cv_hv]
  | succ k ih =>
    intro u hk hu
    have e : 2 ^ (k + 1) = 2 * 2 ^ k := by rw [Nat.pow_succ]; omega
    simp only [cv_hv]
    split
    · rename_i h
      obtain ⟨q, rfl⟩ : ∃ q, u = 2 * q := ⟨u / 2, by omega⟩
      have h1 := ih q (by omega) (by omega)
      rw [show 2 * q / 2 = q by omega, e, show 2 * 2 ^ k / 2 = 2 ^ k by omega, Nat.gcd_mul_left, Nat.mul_div_mul_left _ _ (by decide), Nat.mul_div_mul_left _ _ (by decide)]
      exact h1
    · rename_i h
      have hg : Nat.gcd u (2 ^ (k + 1)) = 1 := Nat.Coprime.pow_right _ (by
        show Nat.gcd u 2 = 1
        rw [Nat.gcd_comm, Nat.gcd_rec, show u % 2 = 1 by omega]; decide)
      rw [hg, Nat.div_one, Nat.div_one]
      exact ⟨rfl, rfl⟩
set_option maxHeartbeats 4000000 in
set_option maxRecDepth 100000 in
theorem pX7_odds (tr : Int32) (ft : Nat) (sl : Nat → Option (Nat × Nat)) (sc : Nat → Nat → Int32) (L : cv_L) (rc : Nat) (rd : Nat → Nat) (rn : Nat → Option Nat) (x y z w0 : Int32) (μ : cv_St) (hR : cv_RM tr ft sl sc L rc rd rn μ) (hB : cv_LB L) (hDB : cv_DB rc rd rn) : cv_Ct yX7_odds cX7_odds 9 (some .long) 6 0 0 17 cv_shM [.ref 0, .int x, .int y, .int z, .int w0] μ (fun v u => v = some (.long (cv_a_odds L x y z w0)) ∧ cv_RM tr ft sl sc L rc rd rn u) := by
  refine cv_enter (own := RX7) (by decide) rfl (Nat.le_of_ble_eq_true rfl) ?_
  intro X a C Rt hRm
  have D := @cv_dec _ _ dkX7_odds
  obtain ⟨hTr, hFt, hSh, hL, hM, hD⟩ := id hR
  have hn6 := hB.1
  have hrc := hDB.1
  show cv_At X _ _ μ 0 [(0, .ref 0), (1, .int x), (2, .int y), (3, .int z), (4, .int w0)] []
  refine cv_iload_n C (pc' := 1) rfl (D 0 (0, .iload_n 1, 1) rfl) rfl (j := 1) rfl ?_
  refine cv_iconst C (pc' := 2) rfl (D 1 (1, .iconst 1, 1) rfl) (v := nI 1) (by decide) ?_
  refine cv_iconst C (pc' := 3) rfl (D 2 (2, .iconst 2, 1) rfl) (v := nI 2) (by decide) ?_
  refine cv_callS C (pc' := 6) rfl (As := [.int x, .int (nI 1), .int (nI 2)]) (rest := []) (idx := 67) (np := 3) (kX7_within x (nI 1) (nI 2) μ) (by decide +kernel) rfl wmX7_67 wt_yX7_within wn_X7 wc_yX7_within (by decide) (by decide) (D 3 (3, .invokestatic 67, 3) rfl) (Nat.le_of_ble_eq_true rfl) rfl (fun w9 u9 h9 => ?_)
  rw [h9.1, h9.2]
  show cv_At X _ _ μ 6 _ [.int (cv_b (decide ((nI 1) ≤ x ∧ x ≤ (nI 2))))]
  refine cv_if_eqB C (pc' := 9) rfl (tgt := 40) (D 4 (6, .ifCond .eq 34, 3) rfl) (by decide) (fun b6 => ?_) (fun b6 => ?_)
  · skip
    refine cv_ldc2 C (pc' := 43) rfl wlX7_65 (D 19 (40, .ldc2_w 65, 3) rfl) ?_
    exact cv_lret C Rt (D 20 (43, .lreturn, 1) rfl) ⟨congrArg (fun z => some (Value.long z)) (by unfold cv_a_odds; rw [if_neg (fun h => by rw [cv_in_12.mpr h.1] at b6; cases b6)]), hR⟩
  · skip
    refine cv_iload_n C (pc' := 10) rfl (D 5 (9, .iload_n 2, 1) rfl) rfl (j := 2) rfl ?_
    refine cv_callS C (pc' := 13) rfl (As := [.int y]) (rest := []) (idx := 124) (np := 1) (kX7_isDay y μ) (by decide +kernel) rfl wmX7_124 wt_yX7_isDay wn_X7 wc_yX7_isDay (by decide) (by decide) (D 6 (10, .invokestatic 124, 3) rfl) (Nat.le_of_ble_eq_true rfl) rfl (fun w9 u9 h9 => ?_)
    rw [h9.1, h9.2]
    show cv_At X _ _ μ 13 _ [.int (cv_b (cv_in y 8))]
    refine cv_if_eqB C (pc' := 16) rfl (tgt := 40) (D 7 (13, .ifCond .eq 27, 3) rfl) (by decide) (fun b13 => ?_) (fun b13 => ?_)
    · skip
      refine cv_ldc2 C (pc' := 43) rfl wlX7_65 (D 19 (40, .ldc2_w 65, 3) rfl) ?_
      exact cv_lret C Rt (D 20 (43, .lreturn, 1) rfl) ⟨congrArg (fun z => some (Value.long z)) (by unfold cv_a_odds; rw [if_neg (fun h => by rw [h.2.1] at b13; cases b13)]), hR⟩
    · skip
      refine cv_iload_n C (pc' := 17) rfl (D 8 (16, .iload_n 3, 1) rfl) rfl (j := 3) rfl ?_
      refine cv_callS C (pc' := 20) rfl (As := [.int z]) (rest := []) (idx := 124) (np := 1) (kX7_isDay z μ) (by decide +kernel) rfl wmX7_124 wt_yX7_isDay wn_X7 wc_yX7_isDay (by decide) (by decide) (D 9 (17, .invokestatic 124, 3) rfl) (Nat.le_of_ble_eq_true rfl) rfl (fun w9 u9 h9 => ?_)
      rw [h9.1, h9.2]
      show cv_At X _ _ μ 20 _ [.int (cv_b (cv_in z 8))]
      refine cv_if_eqB C (pc' := 23) rfl (tgt := 40) (D 10 (20, .ifCond .eq 20, 3) rfl) (by decide) (fun b20 => ?_) (fun b20 => ?_)
      · skip
        refine cv_ldc2 C (pc' := 43) rfl wlX7_65 (D 19 (40, .ldc2_w 65, 3) rfl) ?_
        exact cv_lret C Rt (D 20 (43, .lreturn, 1) rfl) ⟨congrArg (fun z => some (Value.long z)) (by unfold cv_a_odds; rw [if_neg (fun h => by rw [h.2.2.1] at b20; cases b20)]), hR⟩
      · skip
        refine cv_iload C (pc' := 25) rfl (D 11 (23, .iload 4, 2) rfl) (j := 4) rfl ?_
        refine cv_iconst C (pc' := 26) rfl (D 12 (25, .iconst 0, 1) rfl) (v := nI 0) (by decide) ?_
        refine cv_iconst C (pc' := 27) rfl (D 13 (26, .iconst 1, 1) rfl) (v := nI 1) (by decide) ?_
        refine cv_callS C (pc' := 30) rfl (As := [.int w0, .int (nI 0), .int (nI 1)]) (rest := []) (idx := 67) (np := 3) (kX7_within w0 (nI 0) (nI 1) μ) (by decide +kernel) rfl wmX7_67 wt_yX7_within wn_X7 wc_yX7_within (by decide) (by decide) (D 14 (27, .invokestatic 67, 3) rfl) (Nat.le_of_ble_eq_true rfl) rfl (fun w9 u9 h9 => ?_)
        rw [h9.1, h9.2]
        show cv_At X _ _ μ 30 _ [.int (cv_b (decide ((nI 0) ≤ w0 ∧ w0 ≤ (nI 1))))]
        refine cv_if_eqB C (pc' := 33) rfl (tgt := 40) (D 15 (30, .ifCond .eq 10, 3) rfl) (by decide) (fun b30 => ?_) (fun b30 => ?_)
        · skip
          refine cv_ldc2 C (pc' := 43) rfl wlX7_65 (D 19 (40, .ldc2_w 65, 3) rfl) ?_
          exact cv_lret C Rt (D 20 (43, .lreturn, 1) rfl) ⟨congrArg (fun z => some (Value.long z)) (by unfold cv_a_odds; rw [if_neg (fun h => by rw [cv_in_le (n := 1) (by decide), h.2.2.2.1] at b30; cases b30)]), hR⟩
        · skip
          refine cv_aload_n C (pc' := 34) rfl (D 16 (33, .aload_n 0, 1) rfl) rfl (j := 0) rfl ?_
          refine cv_get C (pc' := 37) rfl (k0 := 0) (i := 5) (ci := 7) (by decide) rfl rfl (by decide) (o := none) rfl iw_X7 wfX7_71 (D 17 (34, .getfield 71, 3) rfl) (v := .int (nI (L 7 0))) (congrArg Value.int hL.1) ?_
          refine cv_if_neN C (pc' := 40) rfl (by omega) (tgt := 44) (D 18 (37, .ifCond .ne 7, 3) rfl) (by decide) (fun b37 => ?_) (fun b37 => ?_)
          · skip
            have hx12 := cv_in_12.mp b6
            obtain ⟨k, hk12, rfl⟩ : ∃ k : Nat, (k = 1 ∨ k = 2) ∧ x = nI k := by rcases hx12 with h | h; exact ⟨1, Or.inl rfl, h⟩; exact ⟨2, Or.inr rfl, h⟩
            have hk3 : k < 3 := by omega
            rw [cv_in_le (n := 1) (by decide)] at b30
            obtain ⟨j, hj, rfl⟩ := cv_in_of b13 (by omega)
            obtain ⟨w, hw, rfl⟩ := cv_in_of b20 (by omega)
            obtain ⟨q, hq, rfl⟩ := cv_in_of b30 (by omega)
            have hgk := hB.2.2.2 k hk3
            refine cv_aload_n C (pc' := 45) rfl (D 21 (44, .aload_n 0, 1) rfl) rfl (j := 0) rfl ?_
            refine cv_get C (pc' := 48) rfl (k0 := 0) (i := 7) (ci := 7) (by decide) rfl rfl (by decide) (o := some 5) rfl iw_X7 wfX7_22 (D 22 (45, .getfield 22, 3) rfl) rfl ?_
            refine cv_iload_n C (pc' := 49) rfl (D 23 (48, .iload_n 1, 1) rfl) rfl (j := 1) rfl ?_
            refine cv_iald C (pc' := 50) rfl (k0 := 5) (j := k) (by decide) rfl rfl (by omega) (by decide) (D 24 (49, .iaload, 1) rfl) (v := nI (L 6 k)) (hL.2.2.1 _ (by omega)) ?_
            refine cv_istore C (pc' := 52) rfl (D 25 (50, .istore 5, 2) rfl) (by decide) (lv' := [(5, .int (nI (L 6 k))), (0, .ref 0), (1, .int (nI k)), (2, .int (nI j)), (3, .int (nI w)), (4, .int (nI q))]) rfl ?_
            refine cv_iconst C (pc' := 53) rfl (D 26 (52, .iconst 0, 1) rfl) (v := nI 0) (by decide) ?_
            refine cv_istore C (pc' := 55) rfl (D 27 (53, .istore 6, 2) rfl) (by decide) (lv' := [(6, .int (nI 0)), (5, .int (nI (L 6 k))), (0, .ref 0), (1, .int (nI k)), (2, .int (nI j)), (3, .int (nI w)), (4, .int (nI q))]) rfl ?_
            refine cv_iconst C (pc' := 56) rfl (D 28 (55, .iconst 0, 1) rfl) (v := nI 0) (by decide) ?_
            refine cv_istore C (pc' := 58) rfl (D 29 (56, .istore 7, 2) rfl) (by decide) (lv' := [(7, .int (nI 0)), (6, .int (nI 0)), (5, .int (nI (L 6 k))), (0, .ref 0), (1, .int (nI k)), (2, .int (nI j)), (3, .int (nI w)), (4, .int (nI q))]) rfl ?_
            refine cv_iconst C (pc' := 59) rfl (D 30 (58, .iconst 0, 1) rfl) (v := nI 0) (by decide) ?_
            refine cv_istore C (pc' := 61) rfl (D 31 (59, .istore 8, 2) rfl) (by decide) (lv' := [(8, .int (nI 0)), (7, .int (nI 0)), (6, .int (nI 0)), (5, .int (nI (L 6 k))), (0, .ref 0), (1, .int (nI k)), (2, .int (nI j)), (3, .int (nI w)), (4, .int (nI q))]) rfl ?_
            refine cv_pick [0, 1, 2, 4, 5, 6, 7, 8, 3] (lv' := [(8, .int (nI 0)), (7, .int (nI (cv_cnt (fun i => cv_ob L k i) 0))), (6, .int (nI (cv_cnt (fun i => cv_ob L k i && cv_oc L k j w i) 0))), (0, .ref 0), (1, .int (nI k)), (2, .int (nI j)), (3, .int (nI w)), (4, .int (nI q)), (5, .int (nI (L 6 k)))]) rfl ?_
            have LP61 : ∀ (r : Nat) (v : Nat) (τ : cv_St), (v + r = 256) → (cv_f1 5 k μ τ) → cv_At X (17, cv_shM, 0, 0, a) 9 τ 61 [(8, .int (nI v)), (7, .int (nI (cv_cnt (fun i => cv_ob L k i) v))), (6, .int (nI (cv_cnt (fun i => cv_ob L k i && cv_oc L k j w i) v))), (0, .ref 0), (1, .int (nI k)), (2, .int (nI j)), (3, .int (nI w)), (4, .int (nI q)), (5, .int (nI (L 6 k)))] [] := by
              intro r
              induction r with
              | zero =>
                intro v τ hr hIτ
                obtain rfl : v = 256 := by omega
                refine cv_iload C (pc' := 63) rfl (D 32 (61, .iload 8, 2) rfl) (j := 0) rfl ?_
                refine cv_sipush C (pc' := 66) rfl (D 33 (63, .sipush 255, 3) rfl) (v := nI 255) (by decide) ?_
                refine cv_icmp_gt C (pc' := 69) rfl (tgt := 115) (D 34 (66, .if_icmp .gt 49, 3) rfl) (by decide) (fun _ => ?_) (fun h => absurd h (by decide))
                refine cv_aload_n C (pc' := 116) rfl (D 60 (115, .aload_n 0, 1) rfl) rfl (j := 3) rfl ?_
                refine cv_get C (pc' := 119) rfl (k0 := 0) (i := 7) (ci := 7) (by decide) rfl rfl (by decide) (o := some 5) rfl iw_X7 wfX7_22 (D 61 (116, .getfield 22, 3) rfl) rfl ?_
                refine cv_iload_n C (pc' := 120) rfl (D 62 (119, .iload_n 1, 1) rfl) rfl (j := 4) rfl ?_
                refine cv_iload C (pc' := 122) rfl (D 63 (120, .iload 5, 2) rfl) (j := 8) rfl ?_
                refine cv_iast C (pc' := 123) rfl (k0 := 5) (j := k) (by decide) rfl rfl (by omega) (by decide) (D 64 (122, .iastore, 1) rfl) ?_
                have hod := cv_odb L k j w hk3 hgk
                have hp8 : 2 ^ cv_pc (L 6 k) ≤ 2 ^ 8 := Nat.pow_le_pow_right (by decide) (cv_pc_le _)
                have hpp : 0 < 2 ^ cv_pc (L 6 k) := Nat.two_pow_pos _
                rw [cv_odn_eq, cv_ct_eq L k hgk]
                refine cv_iload C (pc' := 125) rfl (D 65 (123, .iload 6, 2) rfl) (j := 2) rfl ?_
                refine cv_i2l C (pc' := 126) rfl (D 66 (125, .i2l, 1) rfl) (v := lN (cv_odn L k j w)) (nI_l (by omega)) ?_
                refine cv_iload C (pc' := 128) rfl (D 67 (126, .iload 7, 2) rfl) (j := 1) rfl ?_
                refine cv_i2l C (pc' := 129) rfl (D 68 (128, .i2l, 1) rfl) (v := lN (2 ^ cv_pc (L 6 k))) (nI_l (by omega)) ?_
                refine cv_iload C (pc' := 131) rfl (D 69 (129, .iload 4, 2) rfl) (j := 7) rfl ?_
                refine cv_callS C (pc' := 134) rfl (As := [.long (lN (cv_odn L k j w)), .long (lN (2 ^ cv_pc (L 6 k))), .int (nI q)]) (rest := []) (idx := 192) (np := 3) (kX7_inLeastTerms (cv_odn L k j w) (2 ^ cv_pc (L 6 k)) q (cv_u τ 5 k (nI (L 6 k))) (by omega) (by omega) hpp hq) (by decide +kernel) rfl wmX7_192 wt_yX7_inLeastTerms wn_X7 wc_yX7_inLeastTerms (by decide) (by decide) (D 70 (131, .invokestatic 192, 3) rfl) (Nat.le_of_ble_eq_true rfl) rfl (fun w9 u9 h9 => ?_)
                rw [h9.1, h9.2]
                show cv_At X _ _ (cv_u τ 5 k (nI (L 6 k))) 134 _ [.long (if q = 0 then lN (cv_odn L k j w / Nat.gcd (cv_odn L k j w) (2 ^ cv_pc (L 6 k))) else lN (2 ^ cv_pc (L 6 k) / Nat.gcd (cv_odn L k j w) (2 ^ cv_pc (L 6 k))))]
                exact cv_lret C Rt (D 71 (134, .lreturn, 1) rfl) ⟨congrArg (fun z => some (Value.long z)) (by unfold cv_a_odds; refine Eq.trans ?_ (if_pos ⟨hx12, b13, b20, b30, by omega⟩).symm; simp only [cv_nt, nI_clamp (show k < 2 ^ 31 by omega), nI_clamp (show j < 2 ^ 31 by omega), nI_clamp (show w < 2 ^ 31 by omega)]; rw [(cv_hv_g _ _ (cv_pc_le _) hod).1, (cv_hv_g _ _ (cv_pc_le _) hod).2]; have hqq : (nI q = 0) ↔ q = 0 := (by rw [← nI_0]; exact nI_eq (by omega) (by omega)); simp only [hqq]), cv_RM_k (cv_fw_m (cv_f1_end (by decide) hIτ (hL.2.2.1 k hk3))) hR⟩
              | succ r ih61 =>
                intro v τ hr hIτ
                have hxb : v &&& (L 6 k ^^^ 4294967295) ≤ v := Nat.and_le_left
                refine cv_iload C (pc' := 63) rfl (D 32 (61, .iload 8, 2) rfl) (j := 0) rfl ?_
                refine cv_sipush C (pc' := 66) rfl (D 33 (63, .sipush 255, 3) rfl) (v := nI 255) (by decide) ?_
                refine cv_icmp_gtN C (pc' := 69) rfl (by omega) (by omega) (tgt := 115) (D 34 (66, .if_icmp .gt 49, 3) rfl) (by decide) (fun b66 => ?_) (fun b66 => ?_)
                · skip
                  omega
                · skip
                  refine cv_iload C (pc' := 71) rfl (D 35 (69, .iload 8, 2) rfl) (j := 0) rfl ?_
                  refine cv_iload C (pc' := 73) rfl (D 36 (71, .iload 5, 2) rfl) (j := 8) rfl ?_
                  refine cv_iconst C (pc' := 74) rfl (D 37 (73, .iconst (-1), 1) rfl) (v := -1) (by decide) ?_
                  refine cv_ixor C (pc' := 75) rfl (D 38 (74, .ixor, 1) rfl) ?_
                  refine cv_top (w := nI ((L 6 k) ^^^ 4294967295)) (cv_xm1 _) ?_
                  refine cv_iandN C (pc' := 76) rfl (D 39 (75, .iand, 1) rfl) ?_
                  refine cv_if_neN C (pc' := 79) rfl (by omega) (tgt := 109) (D 40 (76, .ifCond .ne 33, 3) rfl) (by decide) (fun b76 => ?_) (fun b76 => ?_)
                  · skip
                    refine cv_iincN C (pc' := 112) rfl (D 58 (109, .iinc 8 1, 3) rfl) (j := 0) rfl (by decide) (lv' := [(8, .int (nI (v + 1))), (7, .int (nI (cv_cnt (fun i => cv_ob L k i) v))), (6, .int (nI (cv_cnt (fun i => cv_ob L k i && cv_oc L k j w i) v))), (0, .ref 0), (1, .int (nI k)), (2, .int (nI j)), (3, .int (nI w)), (4, .int (nI q)), (5, .int (nI (L 6 k)))]) rfl ?_
                    refine cv_goto C (tgt := 61) (D 59 (112, .goto (-51), 3) rfl) (by decide) ?_
                    have hob : cv_ob L k v = false := decide_eq_false (by omega)
                    have hw7 : cv_cnt (fun i => cv_ob L k i) v = cv_cnt (fun i => cv_ob L k i) (v + 1) := by simp [cv_cnt, hob]
                    rw [hw7]
                    have hw6 : cv_cnt (fun i => cv_ob L k i && cv_oc L k j w i) v = cv_cnt (fun i => cv_ob L k i && cv_oc L k j w i) (v + 1) := by simp [cv_cnt, hob]
                    rw [hw6]
                    exact ih61 (v + 1) τ (by omega) hIτ
                  · skip
                    refine cv_aload_n C (pc' := 80) rfl (D 41 (79, .aload_n 0, 1) rfl) rfl (j := 3) rfl ?_
                    refine cv_get C (pc' := 83) rfl (k0 := 0) (i := 7) (ci := 7) (by decide) rfl rfl (by decide) (o := some 5) rfl iw_X7 wfX7_22 (D 42 (80, .getfield 22, 3) rfl) rfl ?_
                    refine cv_iload_n C (pc' := 84) rfl (D 43 (83, .iload_n 1, 1) rfl) rfl (j := 4) rfl ?_
                    refine cv_iload C (pc' := 86) rfl (D 44 (84, .iload 8, 2) rfl) (j := 0) rfl ?_
                    refine cv_iast C (pc' := 87) rfl (k0 := 5) (j := k) (by decide) rfl rfl (by omega) (by decide) (D 45 (86, .iastore, 1) rfl) ?_
                    refine cv_iload C (pc' := 89) rfl (D 46 (87, .iload 6, 2) rfl) (j := 2) rfl ?_
                    refine cv_aload_n C (pc' := 90) rfl (D 47 (89, .aload_n 0, 1) rfl) rfl (j := 3) rfl ?_
                    refine cv_iload_n C (pc' := 91) rfl (D 48 (90, .iload_n 2, 1) rfl) rfl (j := 5) rfl ?_
                    refine cv_iload_n C (pc' := 92) rfl (D 49 (91, .iload_n 3, 1) rfl) rfl (j := 6) rfl ?_
                    have hLs := cv_LM_w (cv_f1_u (by decide) hIτ (nI v)) (cv_LM_give hL k v)
                    have hBs : cv_LB (cv_lu L 6 k v) := cv_LB_give hB (by omega)
                    have hMs : (cv_u τ 5 k (nI v)) 0 13 = -9 := by rw [cv_u_c (by decide), hIτ.2.1 13 (by decide) (by decide)]; exact hM
                    refine cv_callV C (pc' := 95) rfl (k0 := 0) (ci := 7) (As := [.int (nI j), .int (nI w)]) (rest := [.int (nI (cv_cnt (fun i => cv_ob L k i && cv_oc L k j w i) v))]) (idx := 182) (np := 2) (kX7_canBy (cv_lu L 6 k v) (-9) j w (cv_u τ 5 k (nI v)) hLs hBs hMs (by omega) (by omega)) (by decide) rfl rfl rfl (by decide +kernel) rfl wmX7_182 wi_yX7_canBy ws_yX7_canBy wn_X7 wc_yX7_canBy (by decide) (by decide) (D 50 (92, .invokevirtual 182, 3) rfl) (Nat.le_of_ble_eq_true rfl) rfl (fun w92 u92 h92 => ?_)
                    obtain ⟨e92, f92⟩ := h92
                    rw [e92, cv_can_g1 hB hk12]
                    have hIu92 : cv_f1 5 k μ u92 := cv_f1_s (by decide) (by decide) hIτ f92
                    show cv_At X _ _ u92 95 _ [.int (cv_b (cv_oc L k j w v)), .int (nI (cv_cnt (fun i => cv_ob L k i && cv_oc L k j w i) v))]
                    refine cv_if_eqB C (pc' := 98) rfl (tgt := 102) (D 51 (95, .ifCond .eq 7, 3) rfl) (by decide) (fun b95 => ?_) (fun b95 => ?_)
                    · skip
                      refine cv_iconst C (pc' := 103) rfl (D 54 (102, .iconst 0, 1) rfl) (v := nI 0) (by decide) ?_
                      refine cv_iaddN C (pc' := 104) rfl (D 55 (103, .iadd, 1) rfl) ?_
                      refine cv_istore C (pc' := 106) rfl (D 56 (104, .istore 6, 2) rfl) (by decide) (lv' := [(6, .int (nI ((cv_cnt (fun i => cv_ob L k i && cv_oc L k j w i) v) + 0))), (8, .int (nI v)), (7, .int (nI (cv_cnt (fun i => cv_ob L k i) v))), (0, .ref 0), (1, .int (nI k)), (2, .int (nI j)), (3, .int (nI w)), (4, .int (nI q)), (5, .int (nI (L 6 k)))]) rfl ?_
                      refine cv_iincN C (pc' := 109) rfl (D 57 (106, .iinc 7 1, 3) rfl) (j := 2) rfl (by decide) (lv' := [(7, .int (nI ((cv_cnt (fun i => cv_ob L k i) v) + 1))), (6, .int (nI ((cv_cnt (fun i => cv_ob L k i && cv_oc L k j w i) v) + 0))), (8, .int (nI v)), (0, .ref 0), (1, .int (nI k)), (2, .int (nI j)), (3, .int (nI w)), (4, .int (nI q)), (5, .int (nI (L 6 k)))]) rfl ?_
                      refine cv_iincN C (pc' := 112) rfl (D 58 (109, .iinc 8 1, 3) rfl) (j := 2) rfl (by decide) (lv' := [(8, .int (nI (v + 1))), (7, .int (nI ((cv_cnt (fun i => cv_ob L k i) v) + 1))), (6, .int (nI ((cv_cnt (fun i => cv_ob L k i && cv_oc L k j w i) v) + 0))), (0, .ref 0), (1, .int (nI k)), (2, .int (nI j)), (3, .int (nI w)), (4, .int (nI q)), (5, .int (nI (L 6 k)))]) rfl ?_
                      refine cv_goto C (tgt := 61) (D 59 (112, .goto (-51), 3) rfl) (by decide) ?_
                      have hob : cv_ob L k v = true := decide_eq_true b76
                      have hw7 : (cv_cnt (fun i => cv_ob L k i) v) + 1 = cv_cnt (fun i => cv_ob L k i) (v + 1) := by simp [cv_cnt, hob, b95]
                      rw [hw7]
                      have hw6 : (cv_cnt (fun i => cv_ob L k i && cv_oc L k j w i) v) + 0 = cv_cnt (fun i => cv_ob L k i && cv_oc L k j w i) (v + 1) := by simp [cv_cnt, hob, b95]
                      rw [hw6]
                      exact ih61 (v + 1) u92 (by omega) hIu92
                    · skip
                      refine cv_iconst C (pc' := 99) rfl (D 52 (98, .iconst 1, 1) rfl) (v := nI 1) (by decide) ?_
                      refine cv_goto C (tgt := 103) (D 53 (99, .goto 4, 3) rfl) (by decide) ?_
                      refine cv_iaddN C (pc' := 104) rfl (D 55 (103, .iadd, 1) rfl) ?_
                      refine cv_istore C (pc' := 106) rfl (D 56 (104, .istore 6, 2) rfl) (by decide) (lv' := [(6, .int (nI ((cv_cnt (fun i => cv_ob L k i && cv_oc L k j w i) v) + 1))), (8, .int (nI v)), (7, .int (nI (cv_cnt (fun i => cv_ob L k i) v))), (0, .ref 0), (1, .int (nI k)), (2, .int (nI j)), (3, .int (nI w)), (4, .int (nI q)), (5, .int (nI (L 6 k)))]) rfl ?_
                      refine cv_iincN C (pc' := 109) rfl (D 57 (106, .iinc 7 1, 3) rfl) (j := 2) rfl (by decide) (lv' := [(7, .int (nI ((cv_cnt (fun i => cv_ob L k i) v) + 1))), (6, .int (nI ((cv_cnt (fun i => cv_ob L k i && cv_oc L k j w i) v) + 1))), (8, .int (nI v)), (0, .ref 0), (1, .int (nI k)), (2, .int (nI j)), (3, .int (nI w)), (4, .int (nI q)), (5, .int (nI (L 6 k)))]) rfl ?_
                      refine cv_iincN C (pc' := 112) rfl (D 58 (109, .iinc 8 1, 3) rfl) (j := 2) rfl (by decide) (lv' := [(8, .int (nI (v + 1))), (7, .int (nI ((cv_cnt (fun i => cv_ob L k i) v) + 1))), (6, .int (nI ((cv_cnt (fun i => cv_ob L k i && cv_oc L k j w i) v) + 1))), (0, .ref 0), (1, .int (nI k)), (2, .int (nI j)), (3, .int (nI w)), (4, .int (nI q)), (5, .int (nI (L 6 k)))]) rfl ?_
                      refine cv_goto C (tgt := 61) (D 59 (112, .goto (-51), 3) rfl) (by decide) ?_
                      have hob : cv_ob L k v = true := decide_eq_true b76
                      have hw7 : (cv_cnt (fun i => cv_ob L k i) v) + 1 = cv_cnt (fun i => cv_ob L k i) (v + 1) := by simp [cv_cnt, hob, b95]
                      rw [hw7]
                      have hw6 : (cv_cnt (fun i => cv_ob L k i && cv_oc L k j w i) v) + 1 = cv_cnt (fun i => cv_ob L k i && cv_oc L k j w i) (v + 1) := by simp [cv_cnt, hob, b95]
                      rw [hw6]
                      exact ih61 (v + 1) u92 (by omega) hIu92
            exact LP61 256 0 μ (by decide) (cv_f1_r _ _ μ)
          · skip
            refine cv_ldc2 C (pc' := 43) rfl wlX7_65 (D 19 (40, .ldc2_w 65, 3) rfl) ?_
            exact cv_lret C Rt (D 20 (43, .lreturn, 1) rfl) ⟨congrArg (fun z => some (Value.long z)) (by unfold cv_a_odds; rw [if_neg (fun h => by omega)]), hR⟩

