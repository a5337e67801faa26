/-! ===== the reference reads a text ===== -/
def cv_gn (g : Nat → Int32) (n p : Nat) : Bool := decide (p < n) && cv_go g p
theorem cv_gn_iff {g : Nat → Int32} {n p : Nat} : cv_gn g n p = true ↔ p < n ∧ cv_go g p = true := by
  unfold cv_gn
  rw [Bool.and_eq_true, decide_eq_true_iff]
/-- it fails at place j -/
def cv_FP (g : Nat → Int32) (n j : Nat) : Prop := (∀ i, i < j → cv_gn g n i = true) ∧ cv_gn g n j = false ∧ (j < n ∨ j ≤ 21 ∨ (j - 21) % 6 ≠ 0)
theorem cv_gn_le {g : Nat → Int32} {n j : Nat} (h : ∀ i, i < j → cv_gn g n i = true) : j ≤ n := by
  rcases Nat.eq_zero_or_pos j with e | e
  · omega
  · have := (cv_gn_iff.mp (h (j - 1) (by omega))).1
    omega
theorem cv_gn_s {g : Nat → Int32} {n j : Nat} (h : ∀ i, i < j → cv_gn g n i = true) (h1 : j < n ∧ cv_go g j = true) : ∀ i, i < j + 1 → cv_gn g n i = true := cv_ex h (cv_gn_iff.mpr h1)
theorem cv_FP_ff {g : Nat → Int32} {n j : Nat} (h : cv_FP g n j) : cv_ff g n = some j := by
  obtain ⟨h1, h2, h3⟩ := h
  have h4 := cv_gn_le h1
  rcases Nat.lt_or_ge j n with e | e
  · refine cv_ff_some e ?_ (fun i hi => (cv_gn_iff.mp (h1 i hi)).2)
    cases hg : cv_go g j with
    | false => rfl
    | true => rw [cv_gn_iff.mpr ⟨e, hg⟩] at h2; cases h2
  · obtain rfl : j = n := by omega
    rw [cv_ff_all (fun i hi => (cv_gn_iff.mp (h1 i hi)).2), if_neg (by omega)]
theorem cv_FP_mk {g : Nat → Int32} {n j : Nat} (h1 : ∀ i, i < j → cv_gn g n i = true) (h2 : ¬ (j < n ∧ cv_go g j = true)) (h3 : j < n ∨ j ≤ 21 ∨ (j - 21) % 6 ≠ 0) : cv_FP g n j := by
  refine ⟨h1, ?_, h3⟩
  cases hg : cv_gn g n j with
  | false => rfl
  | true => exact absurd (cv_gn_iff.mp hg) h2
/-- the codes lie there -/
def cv_TQ (g : Nat → Int32) (n F : Nat) (μ : cv_St) : Prop := F + n ≤ 240 ∧ ∀ i, i < n → μ 3 (F + i) = g i
theorem cv_TQ_u {g : Nat → Int32} {n F k i : Nat} {v : Int32} {μ : cv_St} (hk : k ≠ 3) (h : cv_TQ g n F μ) : cv_TQ g n F (cv_u μ k i v) := ⟨h.1, fun j hj => by rw [cv_u_c (Ne.symm hk)]; exact h.2 j hj⟩
theorem cv_TQ_3 {g : Nat → Int32} {n F : Nat} {μ u : cv_St} (hk : u 3 = μ 3) (h : cv_TQ g n F μ) : cv_TQ g n F u := ⟨h.1, fun j hj => by rw [hk]; exact h.2 j hj⟩
theorem cv_u_id {μ : cv_St} {k i : Nat} {v : Int32} (h : μ k i = v) : cv_u μ k i v = μ := by
  funext k' i'
  rw [cv_u_at]
  split
  · rename_i e; rw [e.1, e.2]; exact h.symm
  · rfl
theorem cv_dg_w (v : Int32) (lo hi : Nat) (hl : lo ≤ 9) (hh : hi ≤ 9) : decide (nI (48 + lo) ≤ v ∧ v ≤ nI (48 + hi)) = cv_dg v lo hi := by
  unfold cv_dg
  rw [decide_eq_decide]
  have h48 : (nI 48).toInt = 48 := by decide
  have e1 : (nI (48 + lo)).toInt = 48 + lo := by rw [nI_toInt (by omega)]; omega
  have e2 : (nI (48 + hi)).toInt = 48 + hi := by rw [nI_toInt (by omega)]; omega
  have e3 : (nI lo).toInt = lo := nI_toInt (by omega)
  have e4 : (nI hi).toInt = hi := nI_toInt (by omega)
  simp only [Int32.le_iff_toInt_le, e1, e2, e3, e4, Int32.toInt_sub, h48]
  have a1 := Int32.toInt_lt v
  have a2 := Int32.le_toInt v
  simp only [Int.bmod_def]
  omega
theorem kX7_wdg {n : Nat} {sh : Nat → cv_Sh} (v : Int32) (lo hi : Nat) (μ : cv_St) (hl : lo ≤ 9) (hh : hi ≤ 9) : cv_Ct yX7_within cX7_within 3 (some .boolean) 0 0 0 n sh [.int v, .int (nI (48 + lo)), .int (nI (48 + hi))] μ (cv_pu (.int (cv_b (cv_dg v lo hi))) μ) := by
  rw [← cv_dg_w v lo hi hl hh]
  exact kX7_within v _ _ μ
/-! the places' rules -/
theorem cv_go_0 {g : Nat → Int32} : cv_go g 0 = decide (g 0 = nI 118) := rfl
theorem cv_go_d {g : Nat → Int32} {d : Nat} (hd : d < 8) : cv_go g (1 + d) = cv_dg (g (1 + d)) 0 9 := by
  unfold cv_go
  rw [if_neg (by omega), if_pos (by omega)]
theorem cv_go_g {g : Nat → Int32} {v q : Nat} (hv : v < 3) (hq : q < 4) : cv_go g (9 + 4 * v + q) = cv_gg g (9 + 4 * v + q) q := by
  unfold cv_go
  rw [if_neg (by omega), if_neg (by omega), if_pos (by omega), show (9 + 4 * v + q - 9) % 4 = q by omega]
theorem cv_go_g0 {g : Nat → Int32} {v : Nat} (hv : v < 3) : cv_go g (9 + 4 * v) = decide (g (9 + 4 * v) = nI 59) := (cv_go_g (g := g) (q := 0) hv (by decide)).trans (by unfold cv_gg; rw [if_pos rfl]; rfl)
theorem cv_go_s1 {g : Nat → Int32} {v p : Nat} (hp : p = 9 + 4 * v + 1) (hv : v < 3) : cv_go g p = cv_dg (g p) 0 2 := by
  subst hp
  rw [cv_go_g hv (by decide)]
  unfold cv_gg
  rw [if_neg (by decide), if_pos rfl]
theorem cv_go_s2 {g : Nat → Int32} {v p h : Nat} (hp : p = 9 + 4 * v + 1) (hv : v < 3) (hh : (if g p - nI 48 = nI 2 then 5 else 9) = h) : cv_go g (p + 1) = cv_dg (g (p + 1)) 0 h := by
  subst hp
  have e := cv_go_g (g := g) (q := 2) hv (by decide)
  unfold cv_gg at e
  rw [if_neg (by decide), if_neg (by decide), if_pos rfl, show 9 + 4 * v + 2 - 1 = 9 + 4 * v + 1 by omega, hh] at e
  exact e
theorem cv_go_s3 {g : Nat → Int32} {v p h : Nat} (hp : p = 9 + 4 * v + 1) (hv : v < 3) (hh : (if g p - nI 48 = nI 2 ∧ g (p + 1) - nI 48 = nI 5 then 5 else 9) = h) : cv_go g (p + 2) = cv_dg (g (p + 2)) 0 h := by
  subst hp
  have e := cv_go_g (g := g) (q := 3) hv (by decide)
  unfold cv_gg at e
  rw [if_neg (by decide), if_neg (by decide), if_neg (by decide), show 9 + 4 * v + 3 - 2 = 9 + 4 * v + 1 by omega, show 9 + 4 * v + 3 - 1 = 9 + 4 * v + 1 + 1 by omega, hh] at e
  exact e
theorem cv_go_p {g : Nat → Int32} {m q : Nat} (hm : m < 6) (hq : q < 6) : cv_go g (21 + 6 * m + q) = cv_pg g (21 + 6 * m + q) q := by
  unfold cv_go
  rw [if_neg (by omega), if_neg (by omega), if_neg (by omega), show (21 + 6 * m + q - 21) % 6 = q by omega, decide_eq_true (by omega), Bool.true_and]
theorem cv_go_p0 {g : Nat → Int32} {m : Nat} (hm : m < 6) : cv_go g (21 + 6 * m) = decide (g (21 + 6 * m) = nI 44) := (cv_go_p (g := g) (q := 0) hm (by decide)).trans (by unfold cv_pg; rw [if_pos rfl]; rfl)
theorem cv_go_p1 {g : Nat → Int32} {m p : Nat} (hp : p = 21 + 6 * m + 1) (hm : m < 6) : cv_go g p = (cv_kd (g p)).isSome := by
  subst hp
  rw [cv_go_p hm (by decide)]
  unfold cv_pg
  rw [if_neg (by decide), if_pos rfl]
theorem cv_go_p2 {g : Nat → Int32} {m p : Nat} (hp : p = 21 + 6 * m + 1) (hm : m < 6) : cv_go g (p + 1) = cv_dg (g (p + 1)) 0 2 := by
  subst hp
  have e := cv_go_p (g := g) (q := 2) hm (by decide)
  unfold cv_pg at e
  rw [if_neg (by decide), if_neg (by decide), if_pos rfl] at e
  exact e
theorem cv_go_p3 {g : Nat → Int32} {m p : Nat} (hp : p = 21 + 6 * m + 1) (hm : m < 6) : cv_go g (p + 2) = (cv_dg (g (p + 2)) 0 2 && decide (¬ g (p + 2) = g (p + 1))) := by
  subst hp
  have e := cv_go_p (g := g) (q := 3) hm (by decide)
  unfold cv_pg at e
  rw [if_neg (by decide), if_neg (by decide), if_neg (by decide), if_pos rfl, show 21 + 6 * m + 3 - 1 = 21 + 6 * m + 1 + 1 by omega] at e
  exact e
theorem cv_go_p4 {g : Nat → Int32} {m p : Nat} (hp : p = 21 + 6 * m + 1) (hm : m < 6) : cv_go g (p + 3) = cv_dg (g (p + 3)) 1 3 := by
  subst hp
  have e := cv_go_p (g := g) (q := 4) hm (by decide)
  unfold cv_pg at e
  rw [if_neg (by decide), if_neg (by decide), if_neg (by decide), if_neg (by decide), if_pos rfl] at e
  exact e
theorem cv_go_p5 {g : Nat → Int32} {m p : Nat} (hp : p = 21 + 6 * m + 1) (hm : m < 6) : cv_go g (p + 4) = cv_dg (g (p + 4)) 0 9 := by
  subst hp
  have e := cv_go_p (g := g) (q := 5) hm (by decide)
  unfold cv_pg at e
  rw [if_neg (by decide), if_neg (by decide), if_neg (by decide), if_neg (by decide), if_neg (by decide)] at e
  exact e
theorem cv_go_57 {g : Nat → Int32} : cv_go g 57 = false := by
  unfold cv_go
  rw [if_neg (by decide), if_neg (by decide), if_neg (by decide), decide_eq_false (by decide), Bool.false_and]
set_option maxHeartbeats 4000000 in
set_option maxRecDepth 100000 in
theorem kX7_digit (g : Nat → Int32) (n F p lo hi : Nat) (μ : cv_St) (hT : cv_TQ g n F μ) (hA : μ 0 14 = nI (F + p)) (hp : p ≤ n) (hlo : lo ≤ 9) (hhi : hi ≤ 9) : cv_Ct yX7_digit cX7_digit 4 (some .int) 1 0 0 17 cv_shM [.ref 0, .int (nI (F + n)), .int (nI lo), .int (nI hi)] μ (fun v u => ((p < n ∧ cv_dg (g p) lo hi = true) ∧ v = some (.int (nI (cv_dt g p))) ∧ u = cv_u μ 0 14 (nI (F + (p + 1)))) ∨ (¬ (p < n ∧ cv_dg (g p) lo hi = true) ∧ v = some (.int (-9)) ∧ u = μ)) := by
  refine cv_enter (own := RX7) (by decide) rfl (Nat.le_of_ble_eq_true rfl) ?_
  intro X a C Rt hRm
  have D := @cv_dec _ _ dkX7_digit
  have hT1 := hT.1
  show cv_At X _ _ μ 0 [(0, .ref 0), (1, .int (nI (F + n))), (2, .int (nI lo)), (3, .int (nI hi))] []
  refine cv_aload_n C (pc' := 1) rfl (D 0 (0, .aload_n 0, 1) rfl) rfl (j := 0) rfl ?_
  refine cv_get C (pc' := 4) rfl (k0 := 0) (i := 14) (ci := 7) (by decide) rfl rfl (by decide) (o := none) rfl iw_X7 wfX7_74 (D 1 (1, .getfield 74, 3) rfl) (v := .int (nI (F + p))) (congrArg Value.int hA) ?_
  refine cv_iload_n C (pc' := 5) rfl (D 2 (4, .iload_n 1, 1) rfl) rfl (j := 1) rfl ?_
  refine cv_icmp_geN C (pc' := 8) rfl (by omega) (by omega) (tgt := 31) (D 3 (5, .if_icmp .ge 26, 3) rfl) (by decide) (fun b5 => ?_) (fun b5 => ?_)
  · skip
    refine cv_bipush C (pc' := 33) rfl (D 17 (31, .bipush (-9), 2) rfl) (v := -9) (by decide) ?_
    exact cv_iret C Rt rfl (D 18 (33, .ireturn, 1) rfl) (Or.inr ⟨fun h => by omega, rfl, rfl⟩)
  · skip
    refine cv_aload_n C (pc' := 9) rfl (D 4 (8, .aload_n 0, 1) rfl) rfl (j := 0) rfl ?_
    refine cv_get C (pc' := 12) rfl (k0 := 0) (i := 4) (ci := 7) (by decide) rfl rfl (by decide) (o := some 3) rfl iw_X7 wfX7_16 (D 5 (9, .getfield 16, 3) rfl) rfl ?_
    refine cv_aload_n C (pc' := 13) rfl (D 6 (12, .aload_n 0, 1) rfl) rfl (j := 0) rfl ?_
    refine cv_get C (pc' := 16) rfl (k0 := 0) (i := 14) (ci := 7) (by decide) rfl rfl (by decide) (o := none) rfl iw_X7 wfX7_74 (D 7 (13, .getfield 74, 3) rfl) (v := .int (nI (F + p))) (congrArg Value.int hA) ?_
    refine cv_iald C (pc' := 17) rfl (k0 := 3) (j := F + p) (by decide) rfl rfl (by omega) (by decide) (D 8 (16, .iaload, 1) rfl) (v := g p) (hT.2 _ (by omega)) ?_
    refine cv_bipush C (pc' := 19) rfl (D 9 (17, .bipush 48, 2) rfl) (v := nI 48) (by decide) ?_
    refine cv_iload_n C (pc' := 20) rfl (D 10 (19, .iload_n 2, 1) rfl) rfl (j := 2) rfl ?_
    refine cv_iaddN C (pc' := 21) rfl (D 11 (20, .iadd, 1) rfl) ?_
    refine cv_bipush C (pc' := 23) rfl (D 12 (21, .bipush 48, 2) rfl) (v := nI 48) (by decide) ?_
    refine cv_iload_n C (pc' := 24) rfl (D 13 (23, .iload_n 3, 1) rfl) rfl (j := 3) rfl ?_
    refine cv_iaddN C (pc' := 25) rfl (D 14 (24, .iadd, 1) rfl) ?_
    refine cv_callS C (pc' := 28) rfl (As := [.int (g p), .int (nI (48 + lo)), .int (nI (48 + hi))]) (rest := []) (idx := 67) (np := 3) (kX7_wdg (g p) lo hi μ hlo hhi) (by decide +kernel) rfl wmX7_67 wt_yX7_within wn_X7 wc_yX7_within (by decide) (by decide) (D 15 (25, .invokestatic 67, 3) rfl) (Nat.le_of_ble_eq_true rfl) rfl (fun w9 u9 h9 => ?_)
    rw [h9.1, h9.2]
    show cv_At X _ _ μ 28 _ [.int (cv_b (cv_dg (g p) lo hi))]
    refine cv_if_neB C (pc' := 31) rfl (tgt := 34) (D 16 (28, .ifCond .ne 6, 3) rfl) (by decide) (fun b28 => ?_) (fun b28 => ?_)
    · skip
      refine cv_aload_n C (pc' := 35) rfl (D 19 (34, .aload_n 0, 1) rfl) rfl (j := 0) rfl ?_
      refine cv_dup C (pc' := 36) rfl (D 20 (35, .dup, 1) rfl) rfl ?_
      refine cv_get C (pc' := 39) rfl (k0 := 0) (i := 14) (ci := 7) (by decide) rfl rfl (by decide) (o := none) rfl iw_X7 wfX7_74 (D 21 (36, .getfield 74, 3) rfl) (v := .int (nI (F + p))) (congrArg Value.int hA) ?_
      refine cv_iconst C (pc' := 40) rfl (D 22 (39, .iconst 1, 1) rfl) (v := nI 1) (by decide) ?_
      refine cv_iaddN C (pc' := 41) rfl (D 23 (40, .iadd, 1) rfl) ?_
      refine cv_put C (pc' := 44) rfl (k0 := 0) (i := 14) (ci := 7) (by decide) rfl rfl (by decide) rfl iw_X7 tyX7 tyX7_ok nmX7 wfX7_74 rfl rfl rfl (D 24 (41, .putfield 74, 3) rfl) ?_
      refine cv_aload_n C (pc' := 45) rfl (D 25 (44, .aload_n 0, 1) rfl) rfl (j := 0) rfl ?_
      refine cv_get C (pc' := 48) rfl (k0 := 0) (i := 4) (ci := 7) (by decide) rfl rfl (by decide) (o := some 3) rfl iw_X7 wfX7_16 (D 26 (45, .getfield 16, 3) rfl) rfl ?_
      refine cv_aload_n C (pc' := 49) rfl (D 27 (48, .aload_n 0, 1) rfl) rfl (j := 0) rfl ?_
      refine cv_get C (pc' := 52) rfl (k0 := 0) (i := 14) (ci := 7) (by decide) rfl rfl (by decide) (o := none) rfl iw_X7 wfX7_74 (D 28 (49, .getfield 74, 3) rfl) (v := .int (nI ((F + p) + 1))) (congrArg Value.int cv_u_s) ?_
      refine cv_iconst C (pc' := 53) rfl (D 29 (52, .iconst 1, 1) rfl) (v := nI 1) (by decide) ?_
      refine cv_isubN C (pc' := 54) rfl (by omega) (D 30 (53, .isub, 1) rfl) ?_
      refine cv_iald C (pc' := 55) rfl (k0 := 3) (j := ((F + p) + 1) - 1) (by decide) rfl rfl (by omega) (by decide) (D 31 (54, .iaload, 1) rfl) (v := g p) ((congrFun (cv_u_c (by omega)) _).trans (by rw [Nat.add_sub_cancel]; exact hT.2 p (by omega))) ?_
      refine cv_bipush C (pc' := 57) rfl (D 32 (55, .bipush 48, 2) rfl) (v := nI 48) (by decide) ?_
      refine cv_isub C (pc' := 58) rfl (D 33 (57, .isub, 1) rfl) ?_
      exact cv_iret C Rt rfl (D 34 (58, .ireturn, 1) rfl) (Or.inl ⟨⟨by omega, b28⟩, congrArg (fun z => some (Value.int z)) (cv_dt_of hhi hlo b28).1, rfl⟩)
    · skip
      refine cv_bipush C (pc' := 33) rfl (D 17 (31, .bipush (-9), 2) rfl) (v := -9) (by decide) ?_
      exact cv_iret C Rt rfl (D 18 (33, .ireturn, 1) rfl) (Or.inr ⟨fun h => (by rw [h.2] at b28; cases b28), rfl, rfl⟩)

set_option maxHeartbeats 4000000 in
set_option maxRecDepth 100000 in
theorem kX7_isSign (g : Nat → Int32) (n F p c : Nat) (μ : cv_St) (hT : cv_TQ g n F μ) (hA : μ 0 14 = nI (F + p)) (hp : p ≤ n) : cv_Ct yX7_isSign cX7_isSign 3 (some .boolean) 0 0 0 17 cv_shM [.ref 0, .int (nI (F + n)), .int (nI c)] μ (fun v u => ((p < n ∧ g p = nI c) ∧ v = some (.int (nI 1)) ∧ u = cv_u μ 0 14 (nI (F + (p + 1)))) ∨ (¬ (p < n ∧ g p = nI c) ∧ v = some (.int (nI 0)) ∧ u = μ)) := by
  refine cv_enter (own := RX7) (by decide) rfl (Nat.le_of_ble_eq_true rfl) ?_
  intro X a C Rt hRm
  have D := @cv_dec _ _ dkX7_isSign
  have hT1 := hT.1
  show cv_At X _ _ μ 0 [(0, .ref 0), (1, .int (nI (F + n))), (2, .int (nI c))] []
  refine cv_aload_n C (pc' := 1) rfl (D 0 (0, .aload_n 0, 1) rfl) rfl (j := 0) rfl ?_
  refine cv_get C (pc' := 4) rfl (k0 := 0) (i := 14) (ci := 7) (by decide) rfl rfl (by decide) (o := none) rfl iw_X7 wfX7_74 (D 1 (1, .getfield 74, 3) rfl) (v := .int (nI (F + p))) (congrArg Value.int hA) ?_
  refine cv_iload_n C (pc' := 5) rfl (D 2 (4, .iload_n 1, 1) rfl) rfl (j := 1) rfl ?_
  refine cv_icmp_geN C (pc' := 8) rfl (by omega) (by omega) (tgt := 21) (D 3 (5, .if_icmp .ge 16, 3) rfl) (by decide) (fun b5 => ?_) (fun b5 => ?_)
  · skip
    refine cv_iconst C (pc' := 22) rfl (D 11 (21, .iconst 0, 1) rfl) (v := nI 0) (by decide) ?_
    exact cv_iret C Rt (by decide) (D 12 (22, .ireturn, 1) rfl) (Or.inr ⟨fun h => by omega, rfl, rfl⟩)
  · skip
    refine cv_aload_n C (pc' := 9) rfl (D 4 (8, .aload_n 0, 1) rfl) rfl (j := 0) rfl ?_
    refine cv_get C (pc' := 12) rfl (k0 := 0) (i := 4) (ci := 7) (by decide) rfl rfl (by decide) (o := some 3) rfl iw_X7 wfX7_16 (D 5 (9, .getfield 16, 3) rfl) rfl ?_
    refine cv_aload_n C (pc' := 13) rfl (D 6 (12, .aload_n 0, 1) rfl) rfl (j := 0) rfl ?_
    refine cv_get C (pc' := 16) rfl (k0 := 0) (i := 14) (ci := 7) (by decide) rfl rfl (by decide) (o := none) rfl iw_X7 wfX7_74 (D 7 (13, .getfield 74, 3) rfl) (v := .int (nI (F + p))) (congrArg Value.int hA) ?_
    refine cv_iald C (pc' := 17) rfl (k0 := 3) (j := F + p) (by decide) rfl rfl (by omega) (by decide) (D 8 (16, .iaload, 1) rfl) (v := g p) (hT.2 _ (by omega)) ?_
    refine cv_iload_n C (pc' := 18) rfl (D 9 (17, .iload_n 2, 1) rfl) rfl (j := 2) rfl ?_
    refine cv_icmp_eq C (pc' := 21) rfl (tgt := 23) (D 10 (18, .if_icmp .eq 5, 3) rfl) (by decide) (fun b18 => ?_) (fun b18 => ?_)
    · skip
      refine cv_aload_n C (pc' := 24) rfl (D 13 (23, .aload_n 0, 1) rfl) rfl (j := 0) rfl ?_
      refine cv_dup C (pc' := 25) rfl (D 14 (24, .dup, 1) rfl) rfl ?_
      refine cv_get C (pc' := 28) rfl (k0 := 0) (i := 14) (ci := 7) (by decide) rfl rfl (by decide) (o := none) rfl iw_X7 wfX7_74 (D 15 (25, .getfield 74, 3) rfl) (v := .int (nI (F + p))) (congrArg Value.int hA) ?_
      refine cv_iconst C (pc' := 29) rfl (D 16 (28, .iconst 1, 1) rfl) (v := nI 1) (by decide) ?_
      refine cv_iaddN C (pc' := 30) rfl (D 17 (29, .iadd, 1) rfl) ?_
      refine cv_put C (pc' := 33) rfl (k0 := 0) (i := 14) (ci := 7) (by decide) rfl rfl (by decide) rfl iw_X7 tyX7 tyX7_ok nmX7 wfX7_74 rfl rfl rfl (D 18 (30, .putfield 74, 3) rfl) ?_
      refine cv_iconst C (pc' := 34) rfl (D 19 (33, .iconst 1, 1) rfl) (v := nI 1) (by decide) ?_
      exact cv_iret C Rt (by decide) (D 20 (34, .ireturn, 1) rfl) (Or.inl ⟨⟨by omega, b18⟩, rfl, rfl⟩)
    · skip
      refine cv_iconst C (pc' := 22) rfl (D 11 (21, .iconst 0, 1) rfl) (v := nI 0) (by decide) ?_
      exact cv_iret C Rt (by decide) (D 12 (22, .ireturn, 1) rfl) (Or.inr ⟨fun h => b18 h.2, rfl, rfl⟩)

/-- three digits -/
def cv_gv (g : Nat → Int32) (p : Nat) : Nat := cv_dt g p * 100 + cv_dt g (p + 1) * 10 + cv_dt g (p + 2)
set_option maxHeartbeats 4000000 in
set_option maxRecDepth 100000 in
theorem kX7_readSet (g : Nat → Int32) (n F p v : Nat) (μ : cv_St) (hT : cv_TQ g n F μ) (hA : μ 0 14 = nI (F + p)) (hp : p ≤ n) (hpv : p = 9 + 4 * v + 1) (hv : v < 3) (hgo : ∀ i, i < p → cv_gn g n i = true) : cv_Ct yX7_readSet cX7_readSet 5 (some .int) 2 0 0 17 cv_shM [.ref 0, .int (nI (F + n))] μ (fun w u => (w = some (.int (nI (cv_gv g p))) ∧ (∀ i, i < p + 3 → cv_gn g n i = true) ∧ u = cv_u μ 0 14 (nI (F + (p + 3)))) ∨ (w = some (.int (-9)) ∧ ∃ j, cv_FP g n j ∧ u = cv_u μ 0 14 (nI (F + j)))) := by
  refine cv_enter (own := RX7) (by decide) rfl (Nat.le_of_ble_eq_true rfl) ?_
  intro X a C Rt hRm
  have D := @cv_dec _ _ dkX7_readSet
  have hT1 := hT.1
  show cv_At X _ _ μ 0 [(0, .ref 0), (1, .int (nI (F + n)))] []
  refine cv_aload_n C (pc' := 1) rfl (D 0 (0, .aload_n 0, 1) rfl) rfl (j := 0) rfl ?_
  refine cv_iload_n C (pc' := 2) rfl (D 1 (1, .iload_n 1, 1) rfl) rfl (j := 1) rfl ?_
  refine cv_iconst C (pc' := 3) rfl (D 2 (2, .iconst 0, 1) rfl) (v := nI 0) (by decide) ?_
  refine cv_iconst C (pc' := 4) rfl (D 3 (3, .iconst 2, 1) rfl) (v := nI 2) (by decide) ?_
  refine cv_callV C (pc' := 7) rfl (k0 := 0) (ci := 7) (As := [.int (nI (F + n)), .int (nI 0), .int (nI 2)]) (rest := []) (idx := 77) (np := 3) (kX7_digit g n F p 0 2 μ hT hA (by omega) (by decide) (by decide)) (by decide) rfl rfl rfl (by decide +kernel) rfl wmX7_77 wi_yX7_digit ws_yX7_digit wn_X7 wc_yX7_digit (by decide) (by decide) (D 4 (4, .invokevirtual 77, 3) rfl) (Nat.le_of_ble_eq_true rfl) rfl (fun w4 u4 h4 => ?_)
  rcases h4 with ⟨c4, e4, f4⟩ | ⟨c4, e4, f4⟩
  · skip
    rw [e4, f4]
    show cv_At X _ _ (cv_u μ 0 14 (nI (F + (p + 1)))) 7 _ [.int (nI (cv_dt g p))]
    obtain ⟨q4, r4, s4⟩ := cv_dt_of (g := g) (p := p) (lo := 0) (hi := 2) (by decide) (by decide) c4.2
    have k1 := cv_gn_s hgo ⟨c4.1, by rw [cv_go_s1 hpv hv]; exact c4.2⟩
    refine cv_istore_n C (pc' := 8) rfl (D 5 (7, .istore_n 2, 1) rfl) rfl (by decide) (lv' := [(2, .int (nI (cv_dt g p))), (0, .ref 0), (1, .int (nI (F + n)))]) rfl ?_
    refine cv_iload_n C (pc' := 9) rfl (D 6 (8, .iload_n 2, 1) rfl) rfl (j := 0) rfl ?_
    refine cv_bipush C (pc' := 11) rfl (D 7 (9, .bipush (-9), 2) rfl) (v := -9) (by decide) ?_
    refine cv_icmp_ne C (pc' := 14) rfl (tgt := 17) (D 8 (11, .if_icmp .ne 6, 3) rfl) (by decide) (fun b11 => ?_) (fun b11 => ?_)
    · skip
      refine cv_aload_n C (pc' := 18) rfl (D 11 (17, .aload_n 0, 1) rfl) rfl (j := 1) rfl ?_
      refine cv_iload_n C (pc' := 19) rfl (D 12 (18, .iload_n 1, 1) rfl) rfl (j := 2) rfl ?_
      refine cv_iconst C (pc' := 20) rfl (D 13 (19, .iconst 0, 1) rfl) (v := nI 0) (by decide) ?_
      refine cv_iload_n C (pc' := 21) rfl (D 14 (20, .iload_n 2, 1) rfl) rfl (j := 0) rfl ?_
      refine cv_iconst C (pc' := 22) rfl (D 15 (21, .iconst 2, 1) rfl) (v := nI 2) (by decide) ?_
      refine cv_icmp_neN C (pc' := 25) rfl (by omega) (by omega) (tgt := 29) (D 16 (22, .if_icmp .ne 7, 3) rfl) (by decide) (fun b22 => ?_) (fun b22 => ?_)
      · skip
        refine cv_bipush C (pc' := 31) rfl (D 19 (29, .bipush 9, 2) rfl) (v := nI 9) (by decide) ?_
        refine cv_callV C (pc' := 34) rfl (k0 := 0) (ci := 7) (As := [.int (nI (F + n)), .int (nI 0), .int (nI 9)]) (rest := []) (idx := 77) (np := 3) (kX7_digit g n F (p + 1) 0 9 (cv_u μ 0 14 (nI (F + (p + 1)))) (cv_TQ_u (by decide) hT) cv_u_s (by omega) (by decide) (by decide)) (by decide) rfl rfl rfl (by decide +kernel) rfl wmX7_77 wi_yX7_digit ws_yX7_digit wn_X7 wc_yX7_digit (by decide) (by decide) (D 20 (31, .invokevirtual 77, 3) rfl) (Nat.le_of_ble_eq_true rfl) rfl (fun w31 u31 h31 => ?_)
        rcases h31 with ⟨c31, e31, f31⟩ | ⟨c31, e31, f31⟩
        · skip
          rw [e31, f31]
          rw [cv_uu]
          show cv_At X _ _ (cv_u μ 0 14 (nI (F + (p + 2)))) 34 _ [.int (nI (cv_dt g (p + 1)))]
          obtain ⟨q31, r31, s31⟩ := cv_dt_of (g := g) (p := p + 1) (lo := 0) (hi := 9) (by decide) (by decide) c31.2
          have k2 := cv_gn_s k1 ⟨c31.1, by rw [cv_go_s2 hpv hv (if_neg (fun h => b22 ((nI_eq (by omega) (by omega)).mp (q4.symm.trans h))))]; exact c31.2⟩
          refine cv_istore_n C (pc' := 35) rfl (D 21 (34, .istore_n 3, 1) rfl) rfl (by decide) (lv' := [(3, .int (nI (cv_dt g (p + 1)))), (2, .int (nI (cv_dt g p))), (0, .ref 0), (1, .int (nI (F + n)))]) rfl ?_
          refine cv_iload_n C (pc' := 36) rfl (D 22 (35, .iload_n 3, 1) rfl) rfl (j := 0) rfl ?_
          refine cv_bipush C (pc' := 38) rfl (D 23 (36, .bipush (-9), 2) rfl) (v := -9) (by decide) ?_
          refine cv_icmp_ne C (pc' := 41) rfl (tgt := 44) (D 24 (38, .if_icmp .ne 6, 3) rfl) (by decide) (fun b38 => ?_) (fun b38 => ?_)
          · skip
            refine cv_aload_n C (pc' := 45) rfl (D 27 (44, .aload_n 0, 1) rfl) rfl (j := 2) rfl ?_
            refine cv_iload_n C (pc' := 46) rfl (D 28 (45, .iload_n 1, 1) rfl) rfl (j := 3) rfl ?_
            refine cv_iconst C (pc' := 47) rfl (D 29 (46, .iconst 0, 1) rfl) (v := nI 0) (by decide) ?_
            refine cv_iload_n C (pc' := 48) rfl (D 30 (47, .iload_n 2, 1) rfl) rfl (j := 1) rfl ?_
            refine cv_iconst C (pc' := 49) rfl (D 31 (48, .iconst 2, 1) rfl) (v := nI 2) (by decide) ?_
            refine cv_icmp_neN C (pc' := 52) rfl (by omega) (by omega) (tgt := 61) (D 32 (49, .if_icmp .ne 12, 3) rfl) (by decide) (fun b49 => ?_) (fun b49 => ?_)
            · skip
              refine cv_bipush C (pc' := 63) rfl (D 38 (61, .bipush 9, 2) rfl) (v := nI 9) (by decide) ?_
              refine cv_callV C (pc' := 66) rfl (k0 := 0) (ci := 7) (As := [.int (nI (F + n)), .int (nI 0), .int (nI 9)]) (rest := []) (idx := 77) (np := 3) (kX7_digit g n F (p + 2) 0 9 (cv_u μ 0 14 (nI (F + (p + 2)))) (cv_TQ_u (by decide) hT) cv_u_s (by omega) (by decide) (by decide)) (by decide) rfl rfl rfl (by decide +kernel) rfl wmX7_77 wi_yX7_digit ws_yX7_digit wn_X7 wc_yX7_digit (by decide) (by decide) (D 39 (63, .invokevirtual 77, 3) rfl) (Nat.le_of_ble_eq_true rfl) rfl (fun w63 u63 h63 => ?_)
              rcases h63 with ⟨c63, e63, f63⟩ | ⟨c63, e63, f63⟩
              · skip
                rw [e63, f63]
                rw [cv_uu]
                show cv_At X _ _ (cv_u μ 0 14 (nI (F + (p + 3)))) 66 _ [.int (nI (cv_dt g (p + 2)))]
                obtain ⟨q63, r63, s63⟩ := cv_dt_of (g := g) (p := p + 2) (lo := 0) (hi := 9) (by decide) (by decide) c63.2
                refine cv_istore C (pc' := 68) rfl (D 40 (66, .istore 4, 2) rfl) (by decide) (lv' := [(4, .int (nI (cv_dt g (p + 2)))), (3, .int (nI (cv_dt g (p + 1)))), (2, .int (nI (cv_dt g p))), (0, .ref 0), (1, .int (nI (F + n)))]) rfl ?_
                refine cv_iload C (pc' := 70) rfl (D 41 (68, .iload 4, 2) rfl) (j := 0) rfl ?_
                refine cv_bipush C (pc' := 72) rfl (D 42 (70, .bipush (-9), 2) rfl) (v := -9) (by decide) ?_
                refine cv_icmp_ne C (pc' := 75) rfl (tgt := 80) (D 43 (72, .if_icmp .ne 8, 3) rfl) (by decide) (fun b72 => ?_) (fun b72 => ?_)
                · skip
                  refine cv_bipush C (pc' := 82) rfl (D 46 (80, .bipush 100, 2) rfl) (v := nI 100) (by decide) ?_
                  refine cv_iload_n C (pc' := 83) rfl (D 47 (82, .iload_n 2, 1) rfl) rfl (j := 2) rfl ?_
                  refine cv_imulN C (pc' := 84) rfl (D 48 (83, .imul, 1) rfl) ?_
                  refine cv_bipush C (pc' := 86) rfl (D 49 (84, .bipush 10, 2) rfl) (v := nI 10) (by decide) ?_
                  refine cv_iload_n C (pc' := 87) rfl (D 50 (86, .iload_n 3, 1) rfl) rfl (j := 1) rfl ?_
                  refine cv_imulN C (pc' := 88) rfl (D 51 (87, .imul, 1) rfl) ?_
                  refine cv_iaddN C (pc' := 89) rfl (D 52 (88, .iadd, 1) rfl) ?_
                  refine cv_iload C (pc' := 91) rfl (D 53 (89, .iload 4, 2) rfl) (j := 0) rfl ?_
                  refine cv_iaddN C (pc' := 92) rfl (D 54 (91, .iadd, 1) rfl) ?_
                  exact cv_iret C Rt rfl (D 55 (92, .ireturn, 1) rfl) (Or.inl ⟨congrArg (fun z => some (Value.int z)) (congrArg nI (by unfold cv_gv; omega)), cv_gn_s k2 ⟨c63.1, by rw [cv_go_s3 hpv hv (if_neg (fun h => b49 ((nI_eq (by omega) (by omega)).mp (q4.symm.trans h.1))))]; exact c63.2⟩, rfl⟩)
                · skip
                  exact absurd b72 (cv_m9 (by omega))
              · skip
                rw [e63, f63]
                show cv_At X _ _ (cv_u μ 0 14 (nI (F + (p + 2)))) 66 _ [.int (-9)]
                refine cv_istore C (pc' := 68) rfl (D 40 (66, .istore 4, 2) rfl) (by decide) (lv' := [(4, .int (-9)), (3, .int (nI (cv_dt g (p + 1)))), (2, .int (nI (cv_dt g p))), (0, .ref 0), (1, .int (nI (F + n)))]) rfl ?_
                refine cv_iload C (pc' := 70) rfl (D 41 (68, .iload 4, 2) rfl) (j := 0) rfl ?_
                refine cv_bipush C (pc' := 72) rfl (D 42 (70, .bipush (-9), 2) rfl) (v := -9) (by decide) ?_
                refine cv_icmp_ne C (pc' := 75) rfl (tgt := 80) (D 43 (72, .if_icmp .ne 8, 3) rfl) (by decide) (fun h => absurd h (by decide)) (fun _ => ?_)
                refine cv_bipush C (pc' := 77) rfl (D 44 (75, .bipush (-9), 2) rfl) (v := -9) (by decide) ?_
                refine cv_goto C (tgt := 92) (D 45 (77, .goto 15, 3) rfl) (by decide) ?_
                exact cv_iret C Rt rfl (D 55 (92, .ireturn, 1) rfl) (Or.inr ⟨rfl, p + 2, cv_FP_mk k2 (fun h => c63 ⟨h.1, by rw [← cv_go_s3 hpv hv (if_neg (fun h => b49 ((nI_eq (by omega) (by omega)).mp (q4.symm.trans h.1))))]; exact h.2⟩) (by omega), rfl⟩)
            · skip
              refine cv_iload_n C (pc' := 53) rfl (D 33 (52, .iload_n 3, 1) rfl) rfl (j := 0) rfl ?_
              refine cv_iconst C (pc' := 54) rfl (D 34 (53, .iconst 5, 1) rfl) (v := nI 5) (by decide) ?_
              refine cv_icmp_neN C (pc' := 57) rfl (by omega) (by omega) (tgt := 61) (D 35 (54, .if_icmp .ne 7, 3) rfl) (by decide) (fun b54 => ?_) (fun b54 => ?_)
              · skip
                refine cv_bipush C (pc' := 63) rfl (D 38 (61, .bipush 9, 2) rfl) (v := nI 9) (by decide) ?_
                refine cv_callV C (pc' := 66) rfl (k0 := 0) (ci := 7) (As := [.int (nI (F + n)), .int (nI 0), .int (nI 9)]) (rest := []) (idx := 77) (np := 3) (kX7_digit g n F (p + 2) 0 9 (cv_u μ 0 14 (nI (F + (p + 2)))) (cv_TQ_u (by decide) hT) cv_u_s (by omega) (by decide) (by decide)) (by decide) rfl rfl rfl (by decide +kernel) rfl wmX7_77 wi_yX7_digit ws_yX7_digit wn_X7 wc_yX7_digit (by decide) (by decide) (D 39 (63, .invokevirtual 77, 3) rfl) (Nat.le_of_ble_eq_true rfl) rfl (fun w63 u63 h63 => ?_)
                rcases h63 with ⟨c63, e63, f63⟩ | ⟨c63, e63, f63⟩
                · skip
                  rw [e63, f63]
                  rw [cv_uu]
                  show cv_At X _ _ (cv_u μ 0 14 (nI (F + (p + 3)))) 66 _ [.int (nI (cv_dt g (p + 2)))]
                  obtain ⟨q63, r63, s63⟩ := cv_dt_of (g := g) (p := p + 2) (lo := 0) (hi := 9) (by decide) (by decide) c63.2
                  refine cv_istore C (pc' := 68) rfl (D 40 (66, .istore 4, 2) rfl) (by decide) (lv' := [(4, .int (nI (cv_dt g (p + 2)))), (3, .int (nI (cv_dt g (p + 1)))), (2, .int (nI (cv_dt g p))), (0, .ref 0), (1, .int (nI (F + n)))]) rfl ?_
                  refine cv_iload C (pc' := 70) rfl (D 41 (68, .iload 4, 2) rfl) (j := 0) rfl ?_
                  refine cv_bipush C (pc' := 72) rfl (D 42 (70, .bipush (-9), 2) rfl) (v := -9) (by decide) ?_
                  refine cv_icmp_ne C (pc' := 75) rfl (tgt := 80) (D 43 (72, .if_icmp .ne 8, 3) rfl) (by decide) (fun b72 => ?_) (fun b72 => ?_)
                  · skip
                    refine cv_bipush C (pc' := 82) rfl (D 46 (80, .bipush 100, 2) rfl) (v := nI 100) (by decide) ?_
                    refine cv_iload_n C (pc' := 83) rfl (D 47 (82, .iload_n 2, 1) rfl) rfl (j := 2) rfl ?_
                    refine cv_imulN C (pc' := 84) rfl (D 48 (83, .imul, 1) rfl) ?_
                    refine cv_bipush C (pc' := 86) rfl (D 49 (84, .bipush 10, 2) rfl) (v := nI 10) (by decide) ?_
                    refine cv_iload_n C (pc' := 87) rfl (D 50 (86, .iload_n 3, 1) rfl) rfl (j := 1) rfl ?_
                    refine cv_imulN C (pc' := 88) rfl (D 51 (87, .imul, 1) rfl) ?_
                    refine cv_iaddN C (pc' := 89) rfl (D 52 (88, .iadd, 1) rfl) ?_
                    refine cv_iload C (pc' := 91) rfl (D 53 (89, .iload 4, 2) rfl) (j := 0) rfl ?_
                    refine cv_iaddN C (pc' := 92) rfl (D 54 (91, .iadd, 1) rfl) ?_
                    exact cv_iret C Rt rfl (D 55 (92, .ireturn, 1) rfl) (Or.inl ⟨congrArg (fun z => some (Value.int z)) (congrArg nI (by unfold cv_gv; omega)), cv_gn_s k2 ⟨c63.1, by rw [cv_go_s3 hpv hv (if_neg (fun h => b54 ((nI_eq (by omega) (by omega)).mp (q31.symm.trans h.2))))]; exact c63.2⟩, rfl⟩)
                  · skip
                    exact absurd b72 (cv_m9 (by omega))
                · skip
                  rw [e63, f63]
                  show cv_At X _ _ (cv_u μ 0 14 (nI (F + (p + 2)))) 66 _ [.int (-9)]
                  refine cv_istore C (pc' := 68) rfl (D 40 (66, .istore 4, 2) rfl) (by decide) (lv' := [(4, .int (-9)), (3, .int (nI (cv_dt g (p + 1)))), (2, .int (nI (cv_dt g p))), (0, .ref 0), (1, .int (nI (F + n)))]) rfl ?_
                  refine cv_iload C (pc' := 70) rfl (D 41 (68, .iload 4, 2) rfl) (j := 0) rfl ?_
                  refine cv_bipush C (pc' := 72) rfl (D 42 (70, .bipush (-9), 2) rfl) (v := -9) (by decide) ?_
                  refine cv_icmp_ne C (pc' := 75) rfl (tgt := 80) (D 43 (72, .if_icmp .ne 8, 3) rfl) (by decide) (fun h => absurd h (by decide)) (fun _ => ?_)
                  refine cv_bipush C (pc' := 77) rfl (D 44 (75, .bipush (-9), 2) rfl) (v := -9) (by decide) ?_
                  refine cv_goto C (tgt := 92) (D 45 (77, .goto 15, 3) rfl) (by decide) ?_
                  exact cv_iret C Rt rfl (D 55 (92, .ireturn, 1) rfl) (Or.inr ⟨rfl, p + 2, cv_FP_mk k2 (fun h => c63 ⟨h.1, by rw [← cv_go_s3 hpv hv (if_neg (fun h => b54 ((nI_eq (by omega) (by omega)).mp (q31.symm.trans h.2))))]; exact h.2⟩) (by omega), rfl⟩)
              · skip
                refine cv_iconst C (pc' := 58) rfl (D 36 (57, .iconst 5, 1) rfl) (v := nI 5) (by decide) ?_
                refine cv_goto C (tgt := 63) (D 37 (58, .goto 5, 3) rfl) (by decide) ?_
                refine cv_callV C (pc' := 66) rfl (k0 := 0) (ci := 7) (As := [.int (nI (F + n)), .int (nI 0), .int (nI 5)]) (rest := []) (idx := 77) (np := 3) (kX7_digit g n F (p + 2) 0 5 (cv_u μ 0 14 (nI (F + (p + 2)))) (cv_TQ_u (by decide) hT) cv_u_s (by omega) (by decide) (by decide)) (by decide) rfl rfl rfl (by decide +kernel) rfl wmX7_77 wi_yX7_digit ws_yX7_digit wn_X7 wc_yX7_digit (by decide) (by decide) (D 39 (63, .invokevirtual 77, 3) rfl) (Nat.le_of_ble_eq_true rfl) rfl (fun w63 u63 h63 => ?_)
                rcases h63 with ⟨c63, e63, f63⟩ | ⟨c63, e63, f63⟩
                · skip
                  rw [e63, f63]
                  rw [cv_uu]
                  show cv_At X _ _ (cv_u μ 0 14 (nI (F + (p + 3)))) 66 _ [.int (nI (cv_dt g (p + 2)))]
                  obtain ⟨q63, r63, s63⟩ := cv_dt_of (g := g) (p := p + 2) (lo := 0) (hi := 5) (by decide) (by decide) c63.2
                  refine cv_istore C (pc' := 68) rfl (D 40 (66, .istore 4, 2) rfl) (by decide) (lv' := [(4, .int (nI (cv_dt g (p + 2)))), (3, .int (nI (cv_dt g (p + 1)))), (2, .int (nI (cv_dt g p))), (0, .ref 0), (1, .int (nI (F + n)))]) rfl ?_
                  refine cv_iload C (pc' := 70) rfl (D 41 (68, .iload 4, 2) rfl) (j := 0) rfl ?_
                  refine cv_bipush C (pc' := 72) rfl (D 42 (70, .bipush (-9), 2) rfl) (v := -9) (by decide) ?_
                  refine cv_icmp_ne C (pc' := 75) rfl (tgt := 80) (D 43 (72, .if_icmp .ne 8, 3) rfl) (by decide) (fun b72 => ?_) (fun b72 => ?_)
                  · skip
                    refine cv_bipush C (pc' := 82) rfl (D 46 (80, .bipush 100, 2) rfl) (v := nI 100) (by decide) ?_
                    refine cv_iload_n C (pc' := 83) rfl (D 47 (82, .iload_n 2, 1) rfl) rfl (j := 2) rfl ?_
                    refine cv_imulN C (pc' := 84) rfl (D 48 (83, .imul, 1) rfl) ?_
                    refine cv_bipush C (pc' := 86) rfl (D 49 (84, .bipush 10, 2) rfl) (v := nI 10) (by decide) ?_
                    refine cv_iload_n C (pc' := 87) rfl (D 50 (86, .iload_n 3, 1) rfl) rfl (j := 1) rfl ?_
                    refine cv_imulN C (pc' := 88) rfl (D 51 (87, .imul, 1) rfl) ?_
                    refine cv_iaddN C (pc' := 89) rfl (D 52 (88, .iadd, 1) rfl) ?_
                    refine cv_iload C (pc' := 91) rfl (D 53 (89, .iload 4, 2) rfl) (j := 0) rfl ?_
                    refine cv_iaddN C (pc' := 92) rfl (D 54 (91, .iadd, 1) rfl) ?_
                    exact cv_iret C Rt rfl (D 55 (92, .ireturn, 1) rfl) (Or.inl ⟨congrArg (fun z => some (Value.int z)) (congrArg nI (by unfold cv_gv; omega)), cv_gn_s k2 ⟨c63.1, by rw [cv_go_s3 hpv hv (if_pos ⟨by rw [q4, b49], by rw [q31, b54]⟩)]; exact c63.2⟩, rfl⟩)
                  · skip
                    exact absurd b72 (cv_m9 (by omega))
                · skip
                  rw [e63, f63]
                  show cv_At X _ _ (cv_u μ 0 14 (nI (F + (p + 2)))) 66 _ [.int (-9)]
                  refine cv_istore C (pc' := 68) rfl (D 40 (66, .istore 4, 2) rfl) (by decide) (lv' := [(4, .int (-9)), (3, .int (nI (cv_dt g (p + 1)))), (2, .int (nI (cv_dt g p))), (0, .ref 0), (1, .int (nI (F + n)))]) rfl ?_
                  refine cv_iload C (pc' := 70) rfl (D 41 (68, .iload 4, 2) rfl) (j := 0) rfl ?_
                  refine cv_bipush C (pc' := 72) rfl (D 42 (70, .bipush (-9), 2) rfl) (v := -9) (by decide) ?_
                  refine cv_icmp_ne C (pc' := 75) rfl (tgt := 80) (D 43 (72, .if_icmp .ne 8, 3) rfl) (by decide) (fun h => absurd h (by decide)) (fun _ => ?_)
                  refine cv_bipush C (pc' := 77) rfl (D 44 (75, .bipush (-9), 2) rfl) (v := -9) (by decide) ?_
                  refine cv_goto C (tgt := 92) (D 45 (77, .goto 15, 3) rfl) (by decide) ?_
                  exact cv_iret C Rt rfl (D 55 (92, .ireturn, 1) rfl) (Or.inr ⟨rfl, p + 2, cv_FP_mk k2 (fun h => c63 ⟨h.1, by rw [← cv_go_s3 hpv hv (if_pos ⟨by rw [q4, b49], by rw [q31, b54]⟩)]; exact h.2⟩) (by omega), rfl⟩)
          · skip
            exact absurd b38 (cv_m9 (by omega))
        · skip
          rw [e31, f31]
          show cv_At X _ _ (cv_u μ 0 14 (nI (F + (p + 1)))) 34 _ [.int (-9)]
          refine cv_istore_n C (pc' := 35) rfl (D 21 (34, .istore_n 3, 1) rfl) rfl (by decide) (lv' := [(3, .int (-9)), (2, .int (nI (cv_dt g p))), (0, .ref 0), (1, .int (nI (F + n)))]) rfl ?_
          refine cv_iload_n C (pc' := 36) rfl (D 22 (35, .iload_n 3, 1) rfl) rfl (j := 0) rfl ?_
          refine cv_bipush C (pc' := 38) rfl (D 23 (36, .bipush (-9), 2) rfl) (v := -9) (by decide) ?_
          refine cv_icmp_ne C (pc' := 41) rfl (tgt := 44) (D 24 (38, .if_icmp .ne 6, 3) rfl) (by decide) (fun h => absurd h (by decide)) (fun _ => ?_)
          refine cv_bipush C (pc' := 43) rfl (D 25 (41, .bipush (-9), 2) rfl) (v := -9) (by decide) ?_
          exact cv_iret C Rt rfl (D 26 (43, .ireturn, 1) rfl) (Or.inr ⟨rfl, p + 1, cv_FP_mk k1 (fun h => c31 ⟨h.1, by rw [← cv_go_s2 hpv hv (if_neg (fun h => b22 ((nI_eq (by omega) (by omega)).mp (q4.symm.trans h))))]; exact h.2⟩) (by omega), rfl⟩)
      · skip
        refine cv_iconst C (pc' := 26) rfl (D 17 (25, .iconst 5, 1) rfl) (v := nI 5) (by decide) ?_
        refine cv_goto C (tgt := 31) (D 18 (26, .goto 5, 3) rfl) (by decide) ?_
        refine cv_callV C (pc' := 34) rfl (k0 := 0) (ci := 7) (As := [.int (nI (F + n)), .int (nI 0), .int (nI 5)]) (rest := []) (idx := 77) (np := 3) (kX7_digit g n F (p + 1) 0 5 (cv_u μ 0 14 (nI (F + (p + 1)))) (cv_TQ_u (by decide) hT) cv_u_s (by omega) (by decide) (by decide)) (by decide) rfl rfl rfl (by decide +kernel) rfl wmX7_77 wi_yX7_digit ws_yX7_digit wn_X7 wc_yX7_digit (by decide) (by decide) (D 20 (31, .invokevirtual 77, 3) rfl) (Nat.le_of_ble_eq_true rfl) rfl (fun w31 u31 h31 => ?_)
        rcases h31 with ⟨c31, e31, f31⟩ | ⟨c31, e31, f31⟩
        · skip
          rw [e31, f31]
          rw [cv_uu]
          show cv_At X _ _ (cv_u μ 0 14 (nI (F + (p + 2)))) 34 _ [.int (nI (cv_dt g (p + 1)))]
          obtain ⟨q31, r31, s31⟩ := cv_dt_of (g := g) (p := p + 1) (lo := 0) (hi := 5) (by decide) (by decide) c31.2
          have k2 := cv_gn_s k1 ⟨c31.1, by rw [cv_go_s2 hpv hv (if_pos (by rw [q4, b22]))]; exact c31.2⟩
          refine cv_istore_n C (pc' := 35) rfl (D 21 (34, .istore_n 3, 1) rfl) rfl (by decide) (lv' := [(3, .int (nI (cv_dt g (p + 1)))), (2, .int (nI (cv_dt g p))), (0, .ref 0), (1, .int (nI (F + n)))]) rfl ?_
          refine cv_iload_n C (pc' := 36) rfl (D 22 (35, .iload_n 3, 1) rfl) rfl (j := 0) rfl ?_
          refine cv_bipush C (pc' := 38) rfl (D 23 (36, .bipush (-9), 2) rfl) (v := -9) (by decide) ?_
          refine cv_icmp_ne C (pc' := 41) rfl (tgt := 44) (D 24 (38, .if_icmp .ne 6, 3) rfl) (by decide) (fun b38 => ?_) (fun b38 => ?_)
          · skip
            refine cv_aload_n C (pc' := 45) rfl (D 27 (44, .aload_n 0, 1) rfl) rfl (j := 2) rfl ?_
            refine cv_iload_n C (pc' := 46) rfl (D 28 (45, .iload_n 1, 1) rfl) rfl (j := 3) rfl ?_
            refine cv_iconst C (pc' := 47) rfl (D 29 (46, .iconst 0, 1) rfl) (v := nI 0) (by decide) ?_
            refine cv_iload_n C (pc' := 48) rfl (D 30 (47, .iload_n 2, 1) rfl) rfl (j := 1) rfl ?_
            refine cv_iconst C (pc' := 49) rfl (D 31 (48, .iconst 2, 1) rfl) (v := nI 2) (by decide) ?_
            refine cv_icmp_neN C (pc' := 52) rfl (by omega) (by omega) (tgt := 61) (D 32 (49, .if_icmp .ne 12, 3) rfl) (by decide) (fun b49 => ?_) (fun b49 => ?_)
            · skip
              refine cv_bipush C (pc' := 63) rfl (D 38 (61, .bipush 9, 2) rfl) (v := nI 9) (by decide) ?_
              refine cv_callV C (pc' := 66) rfl (k0 := 0) (ci := 7) (As := [.int (nI (F + n)), .int (nI 0), .int (nI 9)]) (rest := []) (idx := 77) (np := 3) (kX7_digit g n F (p + 2) 0 9 (cv_u μ 0 14 (nI (F + (p + 2)))) (cv_TQ_u (by decide) hT) cv_u_s (by omega) (by decide) (by decide)) (by decide) rfl rfl rfl (by decide +kernel) rfl wmX7_77 wi_yX7_digit ws_yX7_digit wn_X7 wc_yX7_digit (by decide) (by decide) (D 39 (63, .invokevirtual 77, 3) rfl) (Nat.le_of_ble_eq_true rfl) rfl (fun w63 u63 h63 => ?_)
              rcases h63 with ⟨c63, e63, f63⟩ | ⟨c63, e63, f63⟩
              · skip
                rw [e63, f63]
                rw [cv_uu]
                show cv_At X _ _ (cv_u μ 0 14 (nI (F + (p + 3)))) 66 _ [.int (nI (cv_dt g (p + 2)))]
                obtain ⟨q63, r63, s63⟩ := cv_dt_of (g := g) (p := p + 2) (lo := 0) (hi := 9) (by decide) (by decide) c63.2
                refine cv_istore C (pc' := 68) rfl (D 40 (66, .istore 4, 2) rfl) (by decide) (lv' := [(4, .int (nI (cv_dt g (p + 2)))), (3, .int (nI (cv_dt g (p + 1)))), (2, .int (nI (cv_dt g p))), (0, .ref 0), (1, .int (nI (F + n)))]) rfl ?_
                refine cv_iload C (pc' := 70) rfl (D 41 (68, .iload 4, 2) rfl) (j := 0) rfl ?_
                refine cv_bipush C (pc' := 72) rfl (D 42 (70, .bipush (-9), 2) rfl) (v := -9) (by decide) ?_
                refine cv_icmp_ne C (pc' := 75) rfl (tgt := 80) (D 43 (72, .if_icmp .ne 8, 3) rfl) (by decide) (fun b72 => ?_) (fun b72 => ?_)
                · skip
                  refine cv_bipush C (pc' := 82) rfl (D 46 (80, .bipush 100, 2) rfl) (v := nI 100) (by decide) ?_
                  refine cv_iload_n C (pc' := 83) rfl (D 47 (82, .iload_n 2, 1) rfl) rfl (j := 2) rfl ?_
                  refine cv_imulN C (pc' := 84) rfl (D 48 (83, .imul, 1) rfl) ?_
                  refine cv_bipush C (pc' := 86) rfl (D 49 (84, .bipush 10, 2) rfl) (v := nI 10) (by decide) ?_
                  refine cv_iload_n C (pc' := 87) rfl (D 50 (86, .iload_n 3, 1) rfl) rfl (j := 1) rfl ?_
                  refine cv_imulN C (pc' := 88) rfl (D 51 (87, .imul, 1) rfl) ?_
                  refine cv_iaddN C (pc' := 89) rfl (D 52 (88, .iadd, 1) rfl) ?_
                  refine cv_iload C (pc' := 91) rfl (D 53 (89, .iload 4, 2) rfl) (j := 0) rfl ?_
                  refine cv_iaddN C (pc' := 92) rfl (D 54 (91, .iadd, 1) rfl) ?_
                  exact cv_iret C Rt rfl (D 55 (92, .ireturn, 1) rfl) (Or.inl ⟨congrArg (fun z => some (Value.int z)) (congrArg nI (by unfold cv_gv; omega)), cv_gn_s k2 ⟨c63.1, by rw [cv_go_s3 hpv hv (if_neg (fun h => b49 ((nI_eq (by omega) (by omega)).mp (q4.symm.trans h.1))))]; exact c63.2⟩, rfl⟩)
                · skip
                  exact absurd b72 (cv_m9 (by omega))
              · skip
                rw [e63, f63]
                show cv_At X _ _ (cv_u μ 0 14 (nI (F + (p + 2)))) 66 _ [.int (-9)]
                refine cv_istore C (pc' := 68) rfl (D 40 (66, .istore 4, 2) rfl) (by decide) (lv' := [(4, .int (-9)), (3, .int (nI (cv_dt g (p + 1)))), (2, .int (nI (cv_dt g p))), (0, .ref 0), (1, .int (nI (F + n)))]) rfl ?_
                refine cv_iload C (pc' := 70) rfl (D 41 (68, .iload 4, 2) rfl) (j := 0) rfl ?_
                refine cv_bipush C (pc' := 72) rfl (D 42 (70, .bipush (-9), 2) rfl) (v := -9) (by decide) ?_
                refine cv_icmp_ne C (pc' := 75) rfl (tgt := 80) (D 43 (72, .if_icmp .ne 8, 3) rfl) (by decide) (fun h => absurd h (by decide)) (fun _ => ?_)
                refine cv_bipush C (pc' := 77) rfl (D 44 (75, .bipush (-9), 2) rfl) (v := -9) (by decide) ?_
                refine cv_goto C (tgt := 92) (D 45 (77, .goto 15, 3) rfl) (by decide) ?_
                exact cv_iret C Rt rfl (D 55 (92, .ireturn, 1) rfl) (Or.inr ⟨rfl, p + 2, cv_FP_mk k2 (fun h => c63 ⟨h.1, by rw [← cv_go_s3 hpv hv (if_neg (fun h => b49 ((nI_eq (by omega) (by omega)).mp (q4.symm.trans h.1))))]; exact h.2⟩) (by omega), rfl⟩)
            · skip
              refine cv_iload_n C (pc' := 53) rfl (D 33 (52, .iload_n 3, 1) rfl) rfl (j := 0) rfl ?_
              refine cv_iconst C (pc' := 54) rfl (D 34 (53, .iconst 5, 1) rfl) (v := nI 5) (by decide) ?_
              refine cv_icmp_neN C (pc' := 57) rfl (by omega) (by omega) (tgt := 61) (D 35 (54, .if_icmp .ne 7, 3) rfl) (by decide) (fun b54 => ?_) (fun b54 => ?_)
              · skip
                refine cv_bipush C (pc' := 63) rfl (D 38 (61, .bipush 9, 2) rfl) (v := nI 9) (by decide) ?_
                refine cv_callV C (pc' := 66) rfl (k0 := 0) (ci := 7) (As := [.int (nI (F + n)), .int (nI 0), .int (nI 9)]) (rest := []) (idx := 77) (np := 3) (kX7_digit g n F (p + 2) 0 9 (cv_u μ 0 14 (nI (F + (p + 2)))) (cv_TQ_u (by decide) hT) cv_u_s (by omega) (by decide) (by decide)) (by decide) rfl rfl rfl (by decide +kernel) rfl wmX7_77 wi_yX7_digit ws_yX7_digit wn_X7 wc_yX7_digit (by decide) (by decide) (D 39 (63, .invokevirtual 77, 3) rfl) (Nat.le_of_ble_eq_true rfl) rfl (fun w63 u63 h63 => ?_)
                rcases h63 with ⟨c63, e63, f63⟩ | ⟨c63, e63, f63⟩
                · skip
                  rw [e63, f63]
                  rw [cv_uu]
                  show cv_At X _ _ (cv_u μ 0 14 (nI (F + (p + 3)))) 66 _ [.int (nI (cv_dt g (p + 2)))]
                  obtain ⟨q63, r63, s63⟩ := cv_dt_of (g := g) (p := p + 2) (lo := 0) (hi := 9) (by decide) (by decide) c63.2
                  refine cv_istore C (pc' := 68) rfl (D 40 (66, .istore 4, 2) rfl) (by decide) (lv' := [(4, .int (nI (cv_dt g (p + 2)))), (3, .int (nI (cv_dt g (p + 1)))), (2, .int (nI (cv_dt g p))), (0, .ref 0), (1, .int (nI (F + n)))]) rfl ?_
                  refine cv_iload C (pc' := 70) rfl (D 41 (68, .iload 4, 2) rfl) (j := 0) rfl ?_
                  refine cv_bipush C (pc' := 72) rfl (D 42 (70, .bipush (-9), 2) rfl) (v := -9) (by decide) ?_
                  refine cv_icmp_ne C (pc' := 75) rfl (tgt := 80) (D 43 (72, .if_icmp .ne 8, 3) rfl) (by decide) (fun b72 => ?_) (fun b72 => ?_)
                  · skip
                    refine cv_bipush C (pc' := 82) rfl (D 46 (80, .bipush 100, 2) rfl) (v := nI 100) (by decide) ?_
                    refine cv_iload_n C (pc' := 83) rfl (D 47 (82, .iload_n 2, 1) rfl) rfl (j := 2) rfl ?_
                    refine cv_imulN C (pc' := 84) rfl (D 48 (83, .imul, 1) rfl) ?_
                    refine cv_bipush C (pc' := 86) rfl (D 49 (84, .bipush 10, 2) rfl) (v := nI 10) (by decide) ?_
                    refine cv_iload_n C (pc' := 87) rfl (D 50 (86, .iload_n 3, 1) rfl) rfl (j := 1) rfl ?_
                    refine cv_imulN C (pc' := 88) rfl (D 51 (87, .imul, 1) rfl) ?_
                    refine cv_iaddN C (pc' := 89) rfl (D 52 (88, .iadd, 1) rfl) ?_
                    refine cv_iload C (pc' := 91) rfl (D 53 (89, .iload 4, 2) rfl) (j := 0) rfl ?_
                    refine cv_iaddN C (pc' := 92) rfl (D 54 (91, .iadd, 1) rfl) ?_
                    exact cv_iret C Rt rfl (D 55 (92, .ireturn, 1) rfl) (Or.inl ⟨congrArg (fun z => some (Value.int z)) (congrArg nI (by unfold cv_gv; omega)), cv_gn_s k2 ⟨c63.1, by rw [cv_go_s3 hpv hv (if_neg (fun h => b54 ((nI_eq (by omega) (by omega)).mp (q31.symm.trans h.2))))]; exact c63.2⟩, rfl⟩)
                  · skip
                    exact absurd b72 (cv_m9 (by omega))
                · skip
                  rw [e63, f63]
                  show cv_At X _ _ (cv_u μ 0 14 (nI (F + (p + 2)))) 66 _ [.int (-9)]
                  refine cv_istore C (pc' := 68) rfl (D 40 (66, .istore 4, 2) rfl) (by decide) (lv' := [(4, .int (-9)), (3, .int (nI (cv_dt g (p + 1)))), (2, .int (nI (cv_dt g p))), (0, .ref 0), (1, .int (nI (F + n)))]) rfl ?_
                  refine cv_iload C (pc' := 70) rfl (D 41 (68, .iload 4, 2) rfl) (j := 0) rfl ?_
                  refine cv_bipush C (pc' := 72) rfl (D 42 (70, .bipush (-9), 2) rfl) (v := -9) (by decide) ?_
                  refine cv_icmp_ne C (pc' := 75) rfl (tgt := 80) (D 43 (72, .if_icmp .ne 8, 3) rfl) (by decide) (fun h => absurd h (by decide)) (fun _ => ?_)
                  refine cv_bipush C (pc' := 77) rfl (D 44 (75, .bipush (-9), 2) rfl) (v := -9) (by decide) ?_
                  refine cv_goto C (tgt := 92) (D 45 (77, .goto 15, 3) rfl) (by decide) ?_
                  exact cv_iret C Rt rfl (D 55 (92, .ireturn, 1) rfl) (Or.inr ⟨rfl, p + 2, cv_FP_mk k2 (fun h => c63 ⟨h.1, by rw [← cv_go_s3 hpv hv (if_neg (fun h => b54 ((nI_eq (by omega) (by omega)).mp (q31.symm.trans h.2))))]; exact h.2⟩) (by omega), rfl⟩)
              · skip
                refine cv_iconst C (pc' := 58) rfl (D 36 (57, .iconst 5, 1) rfl) (v := nI 5) (by decide) ?_
                refine cv_goto C (tgt := 63) (D 37 (58, .goto 5, 3) rfl) (by decide) ?_
                refine cv_callV C (pc' := 66) rfl (k0 := 0) (ci := 7) (As := [.int (nI (F + n)), .int (nI 0), .int (nI 5)]) (rest := []) (idx := 77) (np := 3) (kX7_digit g n F (p + 2) 0 5 (cv_u μ 0 14 (nI (F + (p + 2)))) (cv_TQ_u (by decide) hT) cv_u_s (by omega) (by decide) (by decide)) (by decide) rfl rfl rfl (by decide +kernel) rfl wmX7_77 wi_yX7_digit ws_yX7_digit wn_X7 wc_yX7_digit (by decide) (by decide) (D 39 (63, .invokevirtual 77, 3) rfl) (Nat.le_of_ble_eq_true rfl) rfl (fun w63 u63 h63 => ?_)
                rcases h63 with ⟨c63, e63, f63⟩ | ⟨c63, e63, f63⟩
                · skip
                  rw [e63, f63]
                  rw [cv_uu]
                  show cv_At X _ _ (cv_u μ 0 14 (nI (F + (p + 3)))) 66 _ [.int (nI (cv_dt g (p + 2)))]
                  obtain ⟨q63, r63, s63⟩ := cv_dt_of (g := g) (p := p + 2) (lo := 0) (hi := 5) (by decide) (by decide) c63.2
                  refine cv_istore C (pc' := 68) rfl (D 40 (66, .istore 4, 2) rfl) (by decide) (lv' := [(4, .int (nI (cv_dt g (p + 2)))), (3, .int (nI (cv_dt g (p + 1)))), (2, .int (nI (cv_dt g p))), (0, .ref 0), (1, .int (nI (F + n)))]) rfl ?_
                  refine cv_iload C (pc' := 70) rfl (D 41 (68, .iload 4, 2) rfl) (j := 0) rfl ?_
                  refine cv_bipush C (pc' := 72) rfl (D 42 (70, .bipush (-9), 2) rfl) (v := -9) (by decide) ?_
                  refine cv_icmp_ne C (pc' := 75) rfl (tgt := 80) (D 43 (72, .if_icmp .ne 8, 3) rfl) (by decide) (fun b72 => ?_) (fun b72 => ?_)
                  · skip
                    refine cv_bipush C (pc' := 82) rfl (D 46 (80, .bipush 100, 2) rfl) (v := nI 100) (by decide) ?_
                    refine cv_iload_n C (pc' := 83) rfl (D 47 (82, .iload_n 2, 1) rfl) rfl (j := 2) rfl ?_
                    refine cv_imulN C (pc' := 84) rfl (D 48 (83, .imul, 1) rfl) ?_
                    refine cv_bipush C (pc' := 86) rfl (D 49 (84, .bipush 10, 2) rfl) (v := nI 10) (by decide) ?_
                    refine cv_iload_n C (pc' := 87) rfl (D 50 (86, .iload_n 3, 1) rfl) rfl (j := 1) rfl ?_
                    refine cv_imulN C (pc' := 88) rfl (D 51 (87, .imul, 1) rfl) ?_
                    refine cv_iaddN C (pc' := 89) rfl (D 52 (88, .iadd, 1) rfl) ?_
                    refine cv_iload C (pc' := 91) rfl (D 53 (89, .iload 4, 2) rfl) (j := 0) rfl ?_
                    refine cv_iaddN C (pc' := 92) rfl (D 54 (91, .iadd, 1) rfl) ?_
                    exact cv_iret C Rt rfl (D 55 (92, .ireturn, 1) rfl) (Or.inl ⟨congrArg (fun z => some (Value.int z)) (congrArg nI (by unfold cv_gv; omega)), cv_gn_s k2 ⟨c63.1, by rw [cv_go_s3 hpv hv (if_pos ⟨by rw [q4, b49], by rw [q31, b54]⟩)]; exact c63.2⟩, rfl⟩)
                  · skip
                    exact absurd b72 (cv_m9 (by omega))
                · skip
                  rw [e63, f63]
                  show cv_At X _ _ (cv_u μ 0 14 (nI (F + (p + 2)))) 66 _ [.int (-9)]
                  refine cv_istore C (pc' := 68) rfl (D 40 (66, .istore 4, 2) rfl) (by decide) (lv' := [(4, .int (-9)), (3, .int (nI (cv_dt g (p + 1)))), (2, .int (nI (cv_dt g p))), (0, .ref 0), (1, .int (nI (F + n)))]) rfl ?_
                  refine cv_iload C (pc' := 70) rfl (D 41 (68, .iload 4, 2) rfl) (j := 0) rfl ?_
                  refine cv_bipush C (pc' := 72) rfl (D 42 (70, .bipush (-9), 2) rfl) (v := -9) (by decide) ?_
                  refine cv_icmp_ne C (pc' := 75) rfl (tgt := 80) (D 43 (72, .if_icmp .ne 8, 3) rfl) (by decide) (fun h => absurd h (by decide)) (fun _ => ?_)
                  refine cv_bipush C (pc' := 77) rfl (D 44 (75, .bipush (-9), 2) rfl) (v := -9) (by decide) ?_
                  refine cv_goto C (tgt := 92) (D 45 (77, .goto 15, 3) rfl) (by decide) ?_
                  exact cv_iret C Rt rfl (D 55 (92, .ireturn, 1) rfl) (Or.inr ⟨rfl, p + 2, cv_FP_mk k2 (fun h => c63 ⟨h.1, by rw [← cv_go_s3 hpv hv (if_pos ⟨by rw [q4, b49], by rw [q31, b54]⟩)]; exact h.2⟩) (by omega), rfl⟩)
          · skip
            exact absurd b38 (cv_m9 (by omega))
        · skip
          rw [e31, f31]
          show cv_At X _ _ (cv_u μ 0 14 (nI (F + (p + 1)))) 34 _ [.int (-9)]
          refine cv_istore_n C (pc' := 35) rfl (D 21 (34, .istore_n 3, 1) rfl) rfl (by decide) (lv' := [(3, .int (-9)), (2, .int (nI (cv_dt g p))), (0, .ref 0), (1, .int (nI (F + n)))]) rfl ?_
          refine cv_iload_n C (pc' := 36) rfl (D 22 (35, .iload_n 3, 1) rfl) rfl (j := 0) rfl ?_
          refine cv_bipush C (pc' := 38) rfl (D 23 (36, .bipush (-9), 2) rfl) (v := -9) (by decide) ?_
          refine cv_icmp_ne C (pc' := 41) rfl (tgt := 44) (D 24 (38, .if_icmp .ne 6, 3) rfl) (by decide) (fun h => absurd h (by decide)) (fun _ => ?_)
          refine cv_bipush C (pc' := 43) rfl (D 25 (41, .bipush (-9), 2) rfl) (v := -9) (by decide) ?_
          exact cv_iret C Rt rfl (D 26 (43, .ireturn, 1) rfl) (Or.inr ⟨rfl, p + 1, cv_FP_mk k1 (fun h => c31 ⟨h.1, by rw [← cv_go_s2 hpv hv (if_pos (by rw [q4, b22]))]; exact h.2⟩) (by omega), rfl⟩)
    · skip
      exact absurd b11 (cv_m9 (by omega))
  · skip
    rw [e4, f4]
    show cv_At X _ _ μ 7 _ [.int (-9)]
    refine cv_istore_n C (pc' := 8) rfl (D 5 (7, .istore_n 2, 1) rfl) rfl (by decide) (lv' := [(2, .int (-9)), (0, .ref 0), (1, .int (nI (F + n)))]) rfl ?_
    refine cv_iload_n C (pc' := 9) rfl (D 6 (8, .iload_n 2, 1) rfl) rfl (j := 0) rfl ?_
    refine cv_bipush C (pc' := 11) rfl (D 7 (9, .bipush (-9), 2) rfl) (v := -9) (by decide) ?_
    refine cv_icmp_ne C (pc' := 14) rfl (tgt := 17) (D 8 (11, .if_icmp .ne 6, 3) rfl) (by decide) (fun h => absurd h (by decide)) (fun _ => ?_)
    refine cv_bipush C (pc' := 16) rfl (D 9 (14, .bipush (-9), 2) rfl) (v := -9) (by decide) ?_
    exact cv_iret C Rt rfl (D 10 (16, .ireturn, 1) rfl) (Or.inr ⟨rfl, p, cv_FP_mk hgo (fun h => c4 ⟨h.1, by rw [← cv_go_s1 hpv hv]; exact h.2⟩) (by omega), (cv_u_id hA).symm⟩)

/-- but for what is read of the pass m, as it was -/
def cv_fq (m : Nat) (μ u : cv_St) : Prop := (∀ k, k ≠ 0 → k ≠ 13 → u k = μ k) ∧ (∀ i, i ≠ 14 → i ≠ 15 → u 0 i = μ 0 i) ∧ ∀ j, j < 5 * m → u 13 j = μ 13 j
theorem cv_fq_r (m : Nat) (μ : cv_St) : cv_fq m μ μ := ⟨fun _ _ _ => rfl, fun _ _ _ => rfl, fun _ _ => rfl⟩
theorem cv_fq_0 {m i : Nat} {v : Int32} {μ u : cv_St} (h : cv_fq m μ u) (hi : i = 14 ∨ i = 15) : cv_fq m μ (cv_u u 0 i v) := ⟨fun k a b => by rw [cv_u_c a]; exact h.1 k a b, fun j a b => by rw [cv_u_i (by omega)]; exact h.2.1 j a b, fun j hj => by rw [cv_u_c (by decide)]; exact h.2.2 j hj⟩
theorem cv_fq_13 {m i : Nat} {v : Int32} {μ u : cv_St} (h : cv_fq m μ u) (hi : 5 * m ≤ i) : cv_fq m μ (cv_u u 13 i v) := ⟨fun k a b => by rw [cv_u_c b]; exact h.1 k a b, fun j a b => by rw [cv_u_c (by decide)]; exact h.2.1 j a b, fun j hj => by rw [cv_u_i (by omega)]; exact h.2.2 j hj⟩
theorem cv_sub_in {a b c : Int32} (h : a - c = b - c) : a = b := by
  have := congrArg (· + c) h
  simpa [Int32.sub_add_cancel] using this
set_option maxHeartbeats 4000000 in
set_option maxRecDepth 100000 in
theorem kX7_readPass (g : Nat → Int32) (n F p m : Nat) (μ : cv_St) (hT : cv_TQ g n F μ) (hA : μ 0 14 = nI (F + p)) (hp : p ≤ n) (hpm : p = 21 + 6 * m + 1) (hm : m < 6) (hgo : ∀ i, i < p → cv_gn g n i = true) (hM : μ 0 15 = nI m) : cv_Ct yX7_readPass cX7_readPass 4 (some .boolean) 2 0 0 17 cv_shM [.ref 0, .int (nI (F + n))] μ (fun w u => (w = some (.int (nI 1)) ∧ (∀ i, i < p + 5 → cv_gn g n i = true) ∧ u 0 14 = nI (F + (p + 5)) ∧ u 0 15 = nI (m + 1) ∧ (∀ i, i < 5 → u 13 (5 * m + i) = nI (cv_tl g n i m)) ∧ cv_fq m μ u) ∨ (w = some (.int (nI 0)) ∧ ∃ j, cv_FP g n j ∧ u 0 14 = nI (F + j) ∧ cv_fq m μ u)) := by
  refine cv_enter (own := RX7) (by decide) rfl (Nat.le_of_ble_eq_true rfl) ?_
  intro X a C Rt hRm
  have D := @cv_dec _ _ dkX7_readPass
  have hT1 := hT.1
  show cv_At X _ _ μ 0 [(0, .ref 0), (1, .int (nI (F + n)))] []
  refine cv_iconst C (pc' := 1) rfl (D 0 (0, .iconst 5, 1) rfl) (v := nI 5) (by decide) ?_
  refine cv_aload_n C (pc' := 2) rfl (D 1 (1, .aload_n 0, 1) rfl) rfl (j := 0) rfl ?_
  refine cv_get C (pc' := 5) rfl (k0 := 0) (i := 15) (ci := 7) (by decide) rfl rfl (by decide) (o := none) rfl iw_X7 wfX7_102 (D 2 (2, .getfield 102, 3) rfl) (v := .int (nI m)) (congrArg Value.int hM) ?_
  refine cv_imulN C (pc' := 6) rfl (D 3 (5, .imul, 1) rfl) ?_
  refine cv_istore_n C (pc' := 7) rfl (D 4 (6, .istore_n 2, 1) rfl) rfl (by decide) (lv' := [(2, .int (nI (5 * m))), (0, .ref 0), (1, .int (nI (F + n)))]) rfl ?_
  refine cv_aload_n C (pc' := 8) rfl (D 5 (7, .aload_n 0, 1) rfl) rfl (j := 1) rfl ?_
  refine cv_get C (pc' := 11) rfl (k0 := 0) (i := 14) (ci := 7) (by decide) rfl rfl (by decide) (o := none) rfl iw_X7 wfX7_74 (D 6 (8, .getfield 74, 3) rfl) (v := .int (nI (F + p))) (congrArg Value.int hA) ?_
  refine cv_iload_n C (pc' := 12) rfl (D 7 (11, .iload_n 1, 1) rfl) rfl (j := 2) rfl ?_
  refine cv_icmp_geN C (pc' := 15) rfl (by omega) (by omega) (tgt := 27) (D 8 (12, .if_icmp .ge 15, 3) rfl) (by decide) (fun b12 => ?_) (fun b12 => ?_)
  · skip
    refine cv_iconst C (pc' := 28) rfl (D 15 (27, .iconst 0, 1) rfl) (v := nI 0) (by decide) ?_
    refine cv_istore_n C (pc' := 29) rfl (D 16 (28, .istore_n 3, 1) rfl) rfl (by decide) (lv' := [(3, .int (nI 0)), (2, .int (nI (5 * m))), (0, .ref 0), (1, .int (nI (F + n)))]) rfl ?_
    refine cv_aload_n C (pc' := 30) rfl (D 17 (29, .aload_n 0, 1) rfl) rfl (j := 2) rfl ?_
    refine cv_get C (pc' := 33) rfl (k0 := 0) (i := 18) (ci := 7) (by decide) rfl rfl (by decide) (o := some 13) rfl iw_X7 wfX7_50 (D 18 (30, .getfield 50, 3) rfl) rfl ?_
    refine cv_iload_n C (pc' := 34) rfl (D 19 (33, .iload_n 2, 1) rfl) rfl (j := 1) rfl ?_
    refine cv_iload_n C (pc' := 35) rfl (D 20 (34, .iload_n 3, 1) rfl) rfl (j := 0) rfl ?_
    refine cv_bipush C (pc' := 37) rfl (D 21 (35, .bipush 112, 2) rfl) (v := nI 112) (by decide) ?_
    refine cv_icmp_ne C (pc' := 40) rfl (tgt := 44) (D 22 (37, .if_icmp .ne 7, 3) rfl) (by decide) (fun _ => ?_) (fun h => absurd h (by decide))
    refine cv_iload_n C (pc' := 45) rfl (D 25 (44, .iload_n 3, 1) rfl) rfl (j := 0) rfl ?_
    refine cv_bipush C (pc' := 47) rfl (D 26 (45, .bipush 115, 2) rfl) (v := nI 115) (by decide) ?_
    refine cv_icmp_ne C (pc' := 50) rfl (tgt := 54) (D 27 (47, .if_icmp .ne 7, 3) rfl) (by decide) (fun _ => ?_) (fun h => absurd h (by decide))
    refine cv_iload_n C (pc' := 55) rfl (D 30 (54, .iload_n 3, 1) rfl) rfl (j := 0) rfl ?_
    refine cv_bipush C (pc' := 57) rfl (D 31 (55, .bipush 116, 2) rfl) (v := nI 116) (by decide) ?_
    refine cv_icmp_ne C (pc' := 60) rfl (tgt := 64) (D 32 (57, .if_icmp .ne 7, 3) rfl) (by decide) (fun _ => ?_) (fun h => absurd h (by decide))
    refine cv_bipush C (pc' := 66) rfl (D 35 (64, .bipush (-9), 2) rfl) (v := -9) (by decide) ?_
    refine cv_iast C (pc' := 67) rfl (k0 := 13) (j := 5 * m) (by decide) rfl rfl (by omega) (by decide) (D 36 (66, .iastore, 1) rfl) ?_
    refine cv_aload_n C (pc' := 68) rfl (D 37 (67, .aload_n 0, 1) rfl) rfl (j := 2) rfl ?_
    refine cv_get C (pc' := 71) rfl (k0 := 0) (i := 18) (ci := 7) (by decide) rfl rfl (by decide) (o := some 13) rfl iw_X7 wfX7_50 (D 38 (68, .getfield 50, 3) rfl) rfl ?_
    refine cv_iload_n C (pc' := 72) rfl (D 39 (71, .iload_n 2, 1) rfl) rfl (j := 1) rfl ?_
    refine cv_iald C (pc' := 73) rfl (k0 := 13) (j := 5 * m) (by decide) rfl rfl (by omega) (by decide) (D 40 (72, .iaload, 1) rfl) (v := -9) cv_u_s ?_
    refine cv_bipush C (pc' := 75) rfl (D 41 (73, .bipush (-9), 2) rfl) (v := -9) (by decide) ?_
    refine cv_icmp_ne C (pc' := 78) rfl (tgt := 80) (D 42 (75, .if_icmp .ne 5, 3) rfl) (by decide) (fun h => absurd h (by decide)) (fun _ => ?_)
    refine cv_iconst C (pc' := 79) rfl (D 43 (78, .iconst 0, 1) rfl) (v := nI 0) (by decide) ?_
    exact cv_iret C Rt (by decide) (D 44 (79, .ireturn, 1) rfl) (Or.inr ⟨rfl, p, cv_FP_mk hgo (fun h => by omega) (by omega), ((congrFun (cv_u_c (by omega)) _).trans hA), (cv_fq_13 (cv_fq_r m μ) (by omega))⟩)
  · skip
    refine cv_aload_n C (pc' := 16) rfl (D 9 (15, .aload_n 0, 1) rfl) rfl (j := 1) rfl ?_
    refine cv_get C (pc' := 19) rfl (k0 := 0) (i := 4) (ci := 7) (by decide) rfl rfl (by decide) (o := some 3) rfl iw_X7 wfX7_16 (D 10 (16, .getfield 16, 3) rfl) rfl ?_
    refine cv_aload_n C (pc' := 20) rfl (D 11 (19, .aload_n 0, 1) rfl) rfl (j := 1) rfl ?_
    refine cv_get C (pc' := 23) rfl (k0 := 0) (i := 14) (ci := 7) (by decide) rfl rfl (by decide) (o := none) rfl iw_X7 wfX7_74 (D 12 (20, .getfield 74, 3) rfl) (v := .int (nI (F + p))) (congrArg Value.int hA) ?_
    refine cv_iald C (pc' := 24) rfl (k0 := 3) (j := F + p) (by decide) rfl rfl (by omega) (by decide) (D 13 (23, .iaload, 1) rfl) (v := g p) (hT.2 _ (by omega)) ?_
    refine cv_goto C (tgt := 28) (D 14 (24, .goto 4, 3) rfl) (by decide) ?_
    refine cv_istore_n C (pc' := 29) rfl (D 16 (28, .istore_n 3, 1) rfl) rfl (by decide) (lv' := [(3, .int (g p)), (2, .int (nI (5 * m))), (0, .ref 0), (1, .int (nI (F + n)))]) rfl ?_
    refine cv_aload_n C (pc' := 30) rfl (D 17 (29, .aload_n 0, 1) rfl) rfl (j := 2) rfl ?_
    refine cv_get C (pc' := 33) rfl (k0 := 0) (i := 18) (ci := 7) (by decide) rfl rfl (by decide) (o := some 13) rfl iw_X7 wfX7_50 (D 18 (30, .getfield 50, 3) rfl) rfl ?_
    refine cv_iload_n C (pc' := 34) rfl (D 19 (33, .iload_n 2, 1) rfl) rfl (j := 1) rfl ?_
    refine cv_iload_n C (pc' := 35) rfl (D 20 (34, .iload_n 3, 1) rfl) rfl (j := 0) rfl ?_
    refine cv_bipush C (pc' := 37) rfl (D 21 (35, .bipush 112, 2) rfl) (v := nI 112) (by decide) ?_
    refine cv_icmp_ne C (pc' := 40) rfl (tgt := 44) (D 22 (37, .if_icmp .ne 7, 3) rfl) (by decide) (fun b37 => ?_) (fun b37 => ?_)
    · skip
      refine cv_iload_n C (pc' := 45) rfl (D 25 (44, .iload_n 3, 1) rfl) rfl (j := 0) rfl ?_
      refine cv_bipush C (pc' := 47) rfl (D 26 (45, .bipush 115, 2) rfl) (v := nI 115) (by decide) ?_
      refine cv_icmp_ne C (pc' := 50) rfl (tgt := 54) (D 27 (47, .if_icmp .ne 7, 3) rfl) (by decide) (fun b47 => ?_) (fun b47 => ?_)
      · skip
        refine cv_iload_n C (pc' := 55) rfl (D 30 (54, .iload_n 3, 1) rfl) rfl (j := 0) rfl ?_
        refine cv_bipush C (pc' := 57) rfl (D 31 (55, .bipush 116, 2) rfl) (v := nI 116) (by decide) ?_
        refine cv_icmp_ne C (pc' := 60) rfl (tgt := 64) (D 32 (57, .if_icmp .ne 7, 3) rfl) (by decide) (fun b57 => ?_) (fun b57 => ?_)
        · skip
          refine cv_bipush C (pc' := 66) rfl (D 35 (64, .bipush (-9), 2) rfl) (v := -9) (by decide) ?_
          refine cv_iast C (pc' := 67) rfl (k0 := 13) (j := 5 * m) (by decide) rfl rfl (by omega) (by decide) (D 36 (66, .iastore, 1) rfl) ?_
          refine cv_aload_n C (pc' := 68) rfl (D 37 (67, .aload_n 0, 1) rfl) rfl (j := 2) rfl ?_
          refine cv_get C (pc' := 71) rfl (k0 := 0) (i := 18) (ci := 7) (by decide) rfl rfl (by decide) (o := some 13) rfl iw_X7 wfX7_50 (D 38 (68, .getfield 50, 3) rfl) rfl ?_
          refine cv_iload_n C (pc' := 72) rfl (D 39 (71, .iload_n 2, 1) rfl) rfl (j := 1) rfl ?_
          refine cv_iald C (pc' := 73) rfl (k0 := 13) (j := 5 * m) (by decide) rfl rfl (by omega) (by decide) (D 40 (72, .iaload, 1) rfl) (v := -9) cv_u_s ?_
          refine cv_bipush C (pc' := 75) rfl (D 41 (73, .bipush (-9), 2) rfl) (v := -9) (by decide) ?_
          refine cv_icmp_ne C (pc' := 78) rfl (tgt := 80) (D 42 (75, .if_icmp .ne 5, 3) rfl) (by decide) (fun h => absurd h (by decide)) (fun _ => ?_)
          refine cv_iconst C (pc' := 79) rfl (D 43 (78, .iconst 0, 1) rfl) (v := nI 0) (by decide) ?_
          exact cv_iret C Rt (by decide) (D 44 (79, .ireturn, 1) rfl) (Or.inr ⟨rfl, p, cv_FP_mk hgo (fun h => by have := h.2; rw [cv_go_p1 hpm hm] at this; unfold cv_kd at this; rw [if_neg b37, if_neg b47, if_neg b57] at this; cases this) (by omega), ((congrFun (cv_u_c (by omega)) _).trans hA), (cv_fq_13 (cv_fq_r m μ) (by omega))⟩)
        · skip
          refine cv_iconst C (pc' := 61) rfl (D 33 (60, .iconst 2, 1) rfl) (v := nI 2) (by decide) ?_
          refine cv_goto C (tgt := 66) (D 34 (61, .goto 5, 3) rfl) (by decide) ?_
          refine cv_iast C (pc' := 67) rfl (k0 := 13) (j := 5 * m) (by decide) rfl rfl (by omega) (by decide) (D 36 (66, .iastore, 1) rfl) ?_
          refine cv_aload_n C (pc' := 68) rfl (D 37 (67, .aload_n 0, 1) rfl) rfl (j := 2) rfl ?_
          refine cv_get C (pc' := 71) rfl (k0 := 0) (i := 18) (ci := 7) (by decide) rfl rfl (by decide) (o := some 13) rfl iw_X7 wfX7_50 (D 38 (68, .getfield 50, 3) rfl) rfl ?_
          refine cv_iload_n C (pc' := 72) rfl (D 39 (71, .iload_n 2, 1) rfl) rfl (j := 1) rfl ?_
          refine cv_iald C (pc' := 73) rfl (k0 := 13) (j := 5 * m) (by decide) rfl rfl (by omega) (by decide) (D 40 (72, .iaload, 1) rfl) (v := nI 2) cv_u_s ?_
          refine cv_bipush C (pc' := 75) rfl (D 41 (73, .bipush (-9), 2) rfl) (v := -9) (by decide) ?_
          refine cv_icmp_ne C (pc' := 78) rfl (tgt := 80) (D 42 (75, .if_icmp .ne 5, 3) rfl) (by decide) (fun _ => ?_) (fun h => absurd h (by decide))
          have hkd : cv_kd (g p) = some 2 := (by unfold cv_kd; rw [if_neg b37, if_neg b47, if_pos b57])
          have k1 := cv_gn_s hgo ⟨by omega, by rw [cv_go_p1 hpm hm, hkd]; rfl⟩
          refine cv_aload_n C (pc' := 81) rfl (D 45 (80, .aload_n 0, 1) rfl) rfl (j := 2) rfl ?_
          refine cv_dup C (pc' := 82) rfl (D 46 (81, .dup, 1) rfl) rfl ?_
          refine cv_get C (pc' := 85) rfl (k0 := 0) (i := 14) (ci := 7) (by decide) rfl rfl (by decide) (o := none) rfl iw_X7 wfX7_74 (D 47 (82, .getfield 74, 3) rfl) (v := .int (nI (F + p))) (congrArg Value.int ((congrFun (cv_u_c (by omega)) _).trans hA)) ?_
          refine cv_iconst C (pc' := 86) rfl (D 48 (85, .iconst 1, 1) rfl) (v := nI 1) (by decide) ?_
          refine cv_iaddN C (pc' := 87) rfl (D 49 (86, .iadd, 1) rfl) ?_
          refine cv_top (w := nI (F + (p + 1))) rfl ?_
          refine cv_put C (pc' := 90) rfl (k0 := 0) (i := 14) (ci := 7) (by decide) rfl rfl (by decide) rfl iw_X7 tyX7 tyX7_ok nmX7 wfX7_74 rfl rfl rfl (D 50 (87, .putfield 74, 3) rfl) ?_
          refine cv_aload_n C (pc' := 91) rfl (D 51 (90, .aload_n 0, 1) rfl) rfl (j := 2) rfl ?_
          refine cv_get C (pc' := 94) rfl (k0 := 0) (i := 18) (ci := 7) (by decide) rfl rfl (by decide) (o := some 13) rfl iw_X7 wfX7_50 (D 52 (91, .getfield 50, 3) rfl) rfl ?_
          refine cv_iload_n C (pc' := 95) rfl (D 53 (94, .iload_n 2, 1) rfl) rfl (j := 1) rfl ?_
          refine cv_iconst C (pc' := 96) rfl (D 54 (95, .iconst 1, 1) rfl) (v := nI 1) (by decide) ?_
          refine cv_iaddN C (pc' := 97) rfl (D 55 (96, .iadd, 1) rfl) ?_
          refine cv_aload_n C (pc' := 98) rfl (D 56 (97, .aload_n 0, 1) rfl) rfl (j := 2) rfl ?_
          refine cv_iload_n C (pc' := 99) rfl (D 57 (98, .iload_n 1, 1) rfl) rfl (j := 3) rfl ?_
          refine cv_iconst C (pc' := 100) rfl (D 58 (99, .iconst 0, 1) rfl) (v := nI 0) (by decide) ?_
          refine cv_iconst C (pc' := 101) rfl (D 59 (100, .iconst 2, 1) rfl) (v := nI 2) (by decide) ?_
          refine cv_callV C (pc' := 104) rfl (k0 := 0) (ci := 7) (As := [.int (nI (F + n)), .int (nI 0), .int (nI 2)]) (rest := [.int (nI ((5 * m) + 1)), .ref 13]) (idx := 77) (np := 3) (kX7_digit g n F (p + 1) 0 2 (cv_u (cv_u μ 13 (5 * m) (nI 2)) 0 14 (nI (F + (p + 1)))) (cv_TQ_u (by decide) (cv_TQ_u (by decide) hT)) cv_u_s (by omega) (by decide) (by decide)) (by decide) rfl rfl rfl (by decide +kernel) rfl wmX7_77 wi_yX7_digit ws_yX7_digit wn_X7 wc_yX7_digit (by decide) (by decide) (D 60 (101, .invokevirtual 77, 3) rfl) (Nat.le_of_ble_eq_true rfl) rfl (fun w101 u101 h101 => ?_)
          rcases h101 with ⟨c101, e101, f101⟩ | ⟨c101, e101, f101⟩
          · skip
            rw [e101, f101]
            rw [cv_uu]
            show cv_At X _ _ (cv_u (cv_u μ 13 (5 * m) (nI 2)) 0 14 (nI (F + (p + 2)))) 104 _ [.int (nI (cv_dt g (p + 1))), .int (nI ((5 * m) + 1)), .ref 13]
            obtain ⟨q101, r101, s101⟩ := cv_dt_of (g := g) (p := p + 1) (lo := 0) (hi := 2) (by decide) (by decide) c101.2
            have k2 := cv_gn_s k1 ⟨c101.1, by rw [cv_go_p2 hpm hm]; exact c101.2⟩
            refine cv_iast C (pc' := 105) rfl (k0 := 13) (j := (5 * m) + 1) (by decide) rfl rfl (by omega) (by decide) (D 61 (104, .iastore, 1) rfl) ?_
            refine cv_aload_n C (pc' := 106) rfl (D 62 (105, .aload_n 0, 1) rfl) rfl (j := 2) rfl ?_
            refine cv_get C (pc' := 109) rfl (k0 := 0) (i := 18) (ci := 7) (by decide) rfl rfl (by decide) (o := some 13) rfl iw_X7 wfX7_50 (D 63 (106, .getfield 50, 3) rfl) rfl ?_
            refine cv_iload_n C (pc' := 110) rfl (D 64 (109, .iload_n 2, 1) rfl) rfl (j := 1) rfl ?_
            refine cv_iconst C (pc' := 111) rfl (D 65 (110, .iconst 1, 1) rfl) (v := nI 1) (by decide) ?_
            refine cv_iaddN C (pc' := 112) rfl (D 66 (111, .iadd, 1) rfl) ?_
            refine cv_iald C (pc' := 113) rfl (k0 := 13) (j := (5 * m) + 1) (by decide) rfl rfl (by omega) (by decide) (D 67 (112, .iaload, 1) rfl) (v := nI (cv_dt g (p + 1))) cv_u_s ?_
            refine cv_bipush C (pc' := 115) rfl (D 68 (113, .bipush (-9), 2) rfl) (v := -9) (by decide) ?_
            refine cv_icmp_eq C (pc' := 118) rfl (tgt := 149) (D 69 (115, .if_icmp .eq 34, 3) rfl) (by decide) (fun b115 => ?_) (fun b115 => ?_)
            · skip
              exact absurd b115 (cv_m9 (by omega))
            · skip
              refine cv_aload_n C (pc' := 119) rfl (D 70 (118, .aload_n 0, 1) rfl) rfl (j := 2) rfl ?_
              refine cv_get C (pc' := 122) rfl (k0 := 0) (i := 14) (ci := 7) (by decide) rfl rfl (by decide) (o := none) rfl iw_X7 wfX7_74 (D 71 (119, .getfield 74, 3) rfl) (v := .int (nI (F + (p + 2)))) (congrArg Value.int ((congrFun (cv_u_c (by omega)) _).trans cv_u_s)) ?_
              refine cv_iload_n C (pc' := 123) rfl (D 72 (122, .iload_n 1, 1) rfl) rfl (j := 3) rfl ?_
              refine cv_icmp_geN C (pc' := 126) rfl (by omega) (by omega) (tgt := 151) (D 73 (123, .if_icmp .ge 28, 3) rfl) (by decide) (fun b123 => ?_) (fun b123 => ?_)
              · skip
                refine cv_aload_n C (pc' := 152) rfl (D 90 (151, .aload_n 0, 1) rfl) rfl (j := 2) rfl ?_
                refine cv_get C (pc' := 155) rfl (k0 := 0) (i := 18) (ci := 7) (by decide) rfl rfl (by decide) (o := some 13) rfl iw_X7 wfX7_50 (D 91 (152, .getfield 50, 3) rfl) rfl ?_
                refine cv_iload_n C (pc' := 156) rfl (D 92 (155, .iload_n 2, 1) rfl) rfl (j := 1) rfl ?_
                refine cv_iconst C (pc' := 157) rfl (D 93 (156, .iconst 2, 1) rfl) (v := nI 2) (by decide) ?_
                refine cv_iaddN C (pc' := 158) rfl (D 94 (157, .iadd, 1) rfl) ?_
                refine cv_aload_n C (pc' := 159) rfl (D 95 (158, .aload_n 0, 1) rfl) rfl (j := 2) rfl ?_
                refine cv_iload_n C (pc' := 160) rfl (D 96 (159, .iload_n 1, 1) rfl) rfl (j := 3) rfl ?_
                refine cv_iconst C (pc' := 161) rfl (D 97 (160, .iconst 0, 1) rfl) (v := nI 0) (by decide) ?_
                refine cv_iconst C (pc' := 162) rfl (D 98 (161, .iconst 2, 1) rfl) (v := nI 2) (by decide) ?_
                refine cv_callV C (pc' := 165) rfl (k0 := 0) (ci := 7) (As := [.int (nI (F + n)), .int (nI 0), .int (nI 2)]) (rest := [.int (nI ((5 * m) + 2)), .ref 13]) (idx := 77) (np := 3) (kX7_digit g n F (p + 2) 0 2 (cv_u (cv_u (cv_u μ 13 (5 * m) (nI 2)) 0 14 (nI (F + (p + 2)))) 13 ((5 * m) + 1) (nI (cv_dt g (p + 1)))) (cv_TQ_u (by decide) (cv_TQ_u (by decide) (cv_TQ_u (by decide) hT))) ((congrFun (cv_u_c (by omega)) _).trans cv_u_s) (by omega) (by decide) (by decide)) (by decide) rfl rfl rfl (by decide +kernel) rfl wmX7_77 wi_yX7_digit ws_yX7_digit wn_X7 wc_yX7_digit (by decide) (by decide) (D 99 (162, .invokevirtual 77, 3) rfl) (Nat.le_of_ble_eq_true rfl) rfl (fun w162 u162 h162 => ?_)
                rcases h162 with ⟨c162, e162, f162⟩ | ⟨c162, e162, f162⟩
                · skip
                  rw [e162, f162]
                  exact absurd c162.1 (by omega)
                · skip
                  rw [e162, f162]
                  show cv_At X _ _ (cv_u (cv_u (cv_u μ 13 (5 * m) (nI 2)) 0 14 (nI (F + (p + 2)))) 13 ((5 * m) + 1) (nI (cv_dt g (p + 1)))) 165 _ [.int (-9), .int (nI ((5 * m) + 2)), .ref 13]
                  refine cv_iast C (pc' := 166) rfl (k0 := 13) (j := (5 * m) + 2) (by decide) rfl rfl (by omega) (by decide) (D 100 (165, .iastore, 1) rfl) ?_
                  refine cv_aload_n C (pc' := 167) rfl (D 101 (166, .aload_n 0, 1) rfl) rfl (j := 2) rfl ?_
                  refine cv_get C (pc' := 170) rfl (k0 := 0) (i := 18) (ci := 7) (by decide) rfl rfl (by decide) (o := some 13) rfl iw_X7 wfX7_50 (D 102 (167, .getfield 50, 3) rfl) rfl ?_
                  refine cv_iload_n C (pc' := 171) rfl (D 103 (170, .iload_n 2, 1) rfl) rfl (j := 1) rfl ?_
                  refine cv_iconst C (pc' := 172) rfl (D 104 (171, .iconst 2, 1) rfl) (v := nI 2) (by decide) ?_
                  refine cv_iaddN C (pc' := 173) rfl (D 105 (172, .iadd, 1) rfl) ?_
                  refine cv_iald C (pc' := 174) rfl (k0 := 13) (j := (5 * m) + 2) (by decide) rfl rfl (by omega) (by decide) (D 106 (173, .iaload, 1) rfl) (v := -9) cv_u_s ?_
                  refine cv_bipush C (pc' := 176) rfl (D 107 (174, .bipush (-9), 2) rfl) (v := -9) (by decide) ?_
                  refine cv_icmp_ne C (pc' := 179) rfl (tgt := 181) (D 108 (176, .if_icmp .ne 5, 3) rfl) (by decide) (fun h => absurd h (by decide)) (fun _ => ?_)
                  refine cv_iconst C (pc' := 180) rfl (D 109 (179, .iconst 0, 1) rfl) (v := nI 0) (by decide) ?_
                  exact cv_iret C Rt (by decide) (D 110 (180, .ireturn, 1) rfl) (Or.inr ⟨rfl, p + 2, cv_FP_mk k2 (fun h => c162 ⟨h.1, by have := h.2; rw [cv_go_p3 hpm hm, Bool.and_eq_true] at this; exact this.1⟩) (by omega), ((congrFun (cv_u_c (by omega)) _).trans ((congrFun (cv_u_c (by omega)) _).trans cv_u_s)), (cv_fq_13 (cv_fq_13 (cv_fq_0 (cv_fq_13 (cv_fq_r m μ) (by omega)) (by decide)) (by omega)) (by omega))⟩)
              · skip
                refine cv_aload_n C (pc' := 127) rfl (D 74 (126, .aload_n 0, 1) rfl) rfl (j := 2) rfl ?_
                refine cv_get C (pc' := 130) rfl (k0 := 0) (i := 4) (ci := 7) (by decide) rfl rfl (by decide) (o := some 3) rfl iw_X7 wfX7_16 (D 75 (127, .getfield 16, 3) rfl) rfl ?_
                refine cv_aload_n C (pc' := 131) rfl (D 76 (130, .aload_n 0, 1) rfl) rfl (j := 2) rfl ?_
                refine cv_get C (pc' := 134) rfl (k0 := 0) (i := 14) (ci := 7) (by decide) rfl rfl (by decide) (o := none) rfl iw_X7 wfX7_74 (D 77 (131, .getfield 74, 3) rfl) (v := .int (nI (F + (p + 2)))) (congrArg Value.int ((congrFun (cv_u_c (by omega)) _).trans cv_u_s)) ?_
                refine cv_iald C (pc' := 135) rfl (k0 := 3) (j := F + (p + 2)) (by decide) rfl rfl (by omega) (by decide) (D 78 (134, .iaload, 1) rfl) (v := g (p + 2)) ((congrFun (cv_u_c (by omega)) _).trans ((congrFun (cv_u_c (by omega)) _).trans ((congrFun (cv_u_c (by omega)) _).trans (hT.2 _ (by omega))))) ?_
                refine cv_bipush C (pc' := 137) rfl (D 79 (135, .bipush 48, 2) rfl) (v := nI 48) (by decide) ?_
                refine cv_isub C (pc' := 138) rfl (D 80 (137, .isub, 1) rfl) ?_
                refine cv_aload_n C (pc' := 139) rfl (D 81 (138, .aload_n 0, 1) rfl) rfl (j := 2) rfl ?_
                refine cv_get C (pc' := 142) rfl (k0 := 0) (i := 18) (ci := 7) (by decide) rfl rfl (by decide) (o := some 13) rfl iw_X7 wfX7_50 (D 82 (139, .getfield 50, 3) rfl) rfl ?_
                refine cv_iload_n C (pc' := 143) rfl (D 83 (142, .iload_n 2, 1) rfl) rfl (j := 1) rfl ?_
                refine cv_iconst C (pc' := 144) rfl (D 84 (143, .iconst 1, 1) rfl) (v := nI 1) (by decide) ?_
                refine cv_iaddN C (pc' := 145) rfl (D 85 (144, .iadd, 1) rfl) ?_
                refine cv_iald C (pc' := 146) rfl (k0 := 13) (j := (5 * m) + 1) (by decide) rfl rfl (by omega) (by decide) (D 86 (145, .iaload, 1) rfl) (v := nI (cv_dt g (p + 1))) cv_u_s ?_
                refine cv_icmp_ne C (pc' := 149) rfl (tgt := 151) (D 87 (146, .if_icmp .ne 5, 3) rfl) (by decide) (fun b146 => ?_) (fun b146 => ?_)
                · skip
                  refine cv_aload_n C (pc' := 152) rfl (D 90 (151, .aload_n 0, 1) rfl) rfl (j := 2) rfl ?_
                  refine cv_get C (pc' := 155) rfl (k0 := 0) (i := 18) (ci := 7) (by decide) rfl rfl (by decide) (o := some 13) rfl iw_X7 wfX7_50 (D 91 (152, .getfield 50, 3) rfl) rfl ?_
                  refine cv_iload_n C (pc' := 156) rfl (D 92 (155, .iload_n 2, 1) rfl) rfl (j := 1) rfl ?_
                  refine cv_iconst C (pc' := 157) rfl (D 93 (156, .iconst 2, 1) rfl) (v := nI 2) (by decide) ?_
                  refine cv_iaddN C (pc' := 158) rfl (D 94 (157, .iadd, 1) rfl) ?_
                  refine cv_aload_n C (pc' := 159) rfl (D 95 (158, .aload_n 0, 1) rfl) rfl (j := 2) rfl ?_
                  refine cv_iload_n C (pc' := 160) rfl (D 96 (159, .iload_n 1, 1) rfl) rfl (j := 3) rfl ?_
                  refine cv_iconst C (pc' := 161) rfl (D 97 (160, .iconst 0, 1) rfl) (v := nI 0) (by decide) ?_
                  refine cv_iconst C (pc' := 162) rfl (D 98 (161, .iconst 2, 1) rfl) (v := nI 2) (by decide) ?_
                  refine cv_callV C (pc' := 165) rfl (k0 := 0) (ci := 7) (As := [.int (nI (F + n)), .int (nI 0), .int (nI 2)]) (rest := [.int (nI ((5 * m) + 2)), .ref 13]) (idx := 77) (np := 3) (kX7_digit g n F (p + 2) 0 2 (cv_u (cv_u (cv_u μ 13 (5 * m) (nI 2)) 0 14 (nI (F + (p + 2)))) 13 ((5 * m) + 1) (nI (cv_dt g (p + 1)))) (cv_TQ_u (by decide) (cv_TQ_u (by decide) (cv_TQ_u (by decide) hT))) ((congrFun (cv_u_c (by omega)) _).trans cv_u_s) (by omega) (by decide) (by decide)) (by decide) rfl rfl rfl (by decide +kernel) rfl wmX7_77 wi_yX7_digit ws_yX7_digit wn_X7 wc_yX7_digit (by decide) (by decide) (D 99 (162, .invokevirtual 77, 3) rfl) (Nat.le_of_ble_eq_true rfl) rfl (fun w162 u162 h162 => ?_)
                  rcases h162 with ⟨c162, e162, f162⟩ | ⟨c162, e162, f162⟩
                  · skip
                    rw [e162, f162]
                    show cv_At X _ _ (cv_u (cv_u (cv_u (cv_u μ 13 (5 * m) (nI 2)) 0 14 (nI (F + (p + 2)))) 13 ((5 * m) + 1) (nI (cv_dt g (p + 1)))) 0 14 (nI (F + (p + 3)))) 165 _ [.int (nI (cv_dt g (p + 2))), .int (nI ((5 * m) + 2)), .ref 13]
                    obtain ⟨q162, r162, s162⟩ := cv_dt_of (g := g) (p := p + 2) (lo := 0) (hi := 2) (by decide) (by decide) c162.2
                    have k3 := cv_gn_s k2 ⟨c162.1, by rw [cv_go_p3 hpm hm, c162.2, decide_eq_true (show ¬ g (p + 2) = g (p + 1) from fun h => b146 (by rw [h]; exact q101))]; rfl⟩
                    refine cv_iast C (pc' := 166) rfl (k0 := 13) (j := (5 * m) + 2) (by decide) rfl rfl (by omega) (by decide) (D 100 (165, .iastore, 1) rfl) ?_
                    refine cv_aload_n C (pc' := 167) rfl (D 101 (166, .aload_n 0, 1) rfl) rfl (j := 2) rfl ?_
                    refine cv_get C (pc' := 170) rfl (k0 := 0) (i := 18) (ci := 7) (by decide) rfl rfl (by decide) (o := some 13) rfl iw_X7 wfX7_50 (D 102 (167, .getfield 50, 3) rfl) rfl ?_
                    refine cv_iload_n C (pc' := 171) rfl (D 103 (170, .iload_n 2, 1) rfl) rfl (j := 1) rfl ?_
                    refine cv_iconst C (pc' := 172) rfl (D 104 (171, .iconst 2, 1) rfl) (v := nI 2) (by decide) ?_
                    refine cv_iaddN C (pc' := 173) rfl (D 105 (172, .iadd, 1) rfl) ?_
                    refine cv_iald C (pc' := 174) rfl (k0 := 13) (j := (5 * m) + 2) (by decide) rfl rfl (by omega) (by decide) (D 106 (173, .iaload, 1) rfl) (v := nI (cv_dt g (p + 2))) cv_u_s ?_
                    refine cv_bipush C (pc' := 176) rfl (D 107 (174, .bipush (-9), 2) rfl) (v := -9) (by decide) ?_
                    refine cv_icmp_ne C (pc' := 179) rfl (tgt := 181) (D 108 (176, .if_icmp .ne 5, 3) rfl) (by decide) (fun b176 => ?_) (fun b176 => ?_)
                    · skip
                      refine cv_aload_n C (pc' := 182) rfl (D 111 (181, .aload_n 0, 1) rfl) rfl (j := 2) rfl ?_
                      refine cv_get C (pc' := 185) rfl (k0 := 0) (i := 18) (ci := 7) (by decide) rfl rfl (by decide) (o := some 13) rfl iw_X7 wfX7_50 (D 112 (182, .getfield 50, 3) rfl) rfl ?_
                      refine cv_iload_n C (pc' := 186) rfl (D 113 (185, .iload_n 2, 1) rfl) rfl (j := 1) rfl ?_
                      refine cv_iconst C (pc' := 187) rfl (D 114 (186, .iconst 3, 1) rfl) (v := nI 3) (by decide) ?_
                      refine cv_iaddN C (pc' := 188) rfl (D 115 (187, .iadd, 1) rfl) ?_
                      refine cv_aload_n C (pc' := 189) rfl (D 116 (188, .aload_n 0, 1) rfl) rfl (j := 2) rfl ?_
                      refine cv_iload_n C (pc' := 190) rfl (D 117 (189, .iload_n 1, 1) rfl) rfl (j := 3) rfl ?_
                      refine cv_iconst C (pc' := 191) rfl (D 118 (190, .iconst 1, 1) rfl) (v := nI 1) (by decide) ?_
                      refine cv_iconst C (pc' := 192) rfl (D 119 (191, .iconst 3, 1) rfl) (v := nI 3) (by decide) ?_
                      refine cv_callV C (pc' := 195) rfl (k0 := 0) (ci := 7) (As := [.int (nI (F + n)), .int (nI 1), .int (nI 3)]) (rest := [.int (nI ((5 * m) + 3)), .ref 13]) (idx := 77) (np := 3) (kX7_digit g n F (p + 3) 1 3 (cv_u (cv_u (cv_u (cv_u (cv_u μ 13 (5 * m) (nI 2)) 0 14 (nI (F + (p + 2)))) 13 ((5 * m) + 1) (nI (cv_dt g (p + 1)))) 0 14 (nI (F + (p + 3)))) 13 ((5 * m) + 2) (nI (cv_dt g (p + 2)))) (cv_TQ_u (by decide) (cv_TQ_u (by decide) (cv_TQ_u (by decide) (cv_TQ_u (by decide) (cv_TQ_u (by decide) hT))))) ((congrFun (cv_u_c (by omega)) _).trans cv_u_s) (by omega) (by decide) (by decide)) (by decide) rfl rfl rfl (by decide +kernel) rfl wmX7_77 wi_yX7_digit ws_yX7_digit wn_X7 wc_yX7_digit (by decide) (by decide) (D 120 (192, .invokevirtual 77, 3) rfl) (Nat.le_of_ble_eq_true rfl) rfl (fun w192 u192 h192 => ?_)
                      rcases h192 with ⟨c192, e192, f192⟩ | ⟨c192, e192, f192⟩
                      · skip
                        rw [e192, f192]
                        show cv_At X _ _ (cv_u (cv_u (cv_u (cv_u (cv_u (cv_u μ 13 (5 * m) (nI 2)) 0 14 (nI (F + (p + 2)))) 13 ((5 * m) + 1) (nI (cv_dt g (p + 1)))) 0 14 (nI (F + (p + 3)))) 13 ((5 * m) + 2) (nI (cv_dt g (p + 2)))) 0 14 (nI (F + (p + 4)))) 195 _ [.int (nI (cv_dt g (p + 3))), .int (nI ((5 * m) + 3)), .ref 13]
                        obtain ⟨q192, r192, s192⟩ := cv_dt_of (g := g) (p := p + 3) (lo := 1) (hi := 3) (by decide) (by decide) c192.2
                        have k4 := cv_gn_s k3 ⟨c192.1, by rw [cv_go_p4 hpm hm]; exact c192.2⟩
                        refine cv_iast C (pc' := 196) rfl (k0 := 13) (j := (5 * m) + 3) (by decide) rfl rfl (by omega) (by decide) (D 121 (195, .iastore, 1) rfl) ?_
                        refine cv_aload_n C (pc' := 197) rfl (D 122 (196, .aload_n 0, 1) rfl) rfl (j := 2) rfl ?_
                        refine cv_get C (pc' := 200) rfl (k0 := 0) (i := 18) (ci := 7) (by decide) rfl rfl (by decide) (o := some 13) rfl iw_X7 wfX7_50 (D 123 (197, .getfield 50, 3) rfl) rfl ?_
                        refine cv_iload_n C (pc' := 201) rfl (D 124 (200, .iload_n 2, 1) rfl) rfl (j := 1) rfl ?_
                        refine cv_iconst C (pc' := 202) rfl (D 125 (201, .iconst 3, 1) rfl) (v := nI 3) (by decide) ?_
                        refine cv_iaddN C (pc' := 203) rfl (D 126 (202, .iadd, 1) rfl) ?_
                        refine cv_iald C (pc' := 204) rfl (k0 := 13) (j := (5 * m) + 3) (by decide) rfl rfl (by omega) (by decide) (D 127 (203, .iaload, 1) rfl) (v := nI (cv_dt g (p + 3))) cv_u_s ?_
                        refine cv_bipush C (pc' := 206) rfl (D 128 (204, .bipush (-9), 2) rfl) (v := -9) (by decide) ?_
                        refine cv_icmp_ne C (pc' := 209) rfl (tgt := 211) (D 129 (206, .if_icmp .ne 5, 3) rfl) (by decide) (fun b206 => ?_) (fun b206 => ?_)
                        · skip
                          refine cv_aload_n C (pc' := 212) rfl (D 132 (211, .aload_n 0, 1) rfl) rfl (j := 2) rfl ?_
                          refine cv_get C (pc' := 215) rfl (k0 := 0) (i := 18) (ci := 7) (by decide) rfl rfl (by decide) (o := some 13) rfl iw_X7 wfX7_50 (D 133 (212, .getfield 50, 3) rfl) rfl ?_
                          refine cv_iload_n C (pc' := 216) rfl (D 134 (215, .iload_n 2, 1) rfl) rfl (j := 1) rfl ?_
                          refine cv_iconst C (pc' := 217) rfl (D 135 (216, .iconst 4, 1) rfl) (v := nI 4) (by decide) ?_
                          refine cv_iaddN C (pc' := 218) rfl (D 136 (217, .iadd, 1) rfl) ?_
                          refine cv_aload_n C (pc' := 219) rfl (D 137 (218, .aload_n 0, 1) rfl) rfl (j := 2) rfl ?_
                          refine cv_iload_n C (pc' := 220) rfl (D 138 (219, .iload_n 1, 1) rfl) rfl (j := 3) rfl ?_
                          refine cv_iconst C (pc' := 221) rfl (D 139 (220, .iconst 0, 1) rfl) (v := nI 0) (by decide) ?_
                          refine cv_bipush C (pc' := 223) rfl (D 140 (221, .bipush 9, 2) rfl) (v := nI 9) (by decide) ?_
                          refine cv_callV C (pc' := 226) rfl (k0 := 0) (ci := 7) (As := [.int (nI (F + n)), .int (nI 0), .int (nI 9)]) (rest := [.int (nI ((5 * m) + 4)), .ref 13]) (idx := 77) (np := 3) (kX7_digit g n F (p + 4) 0 9 (cv_u (cv_u (cv_u (cv_u (cv_u (cv_u (cv_u μ 13 (5 * m) (nI 2)) 0 14 (nI (F + (p + 2)))) 13 ((5 * m) + 1) (nI (cv_dt g (p + 1)))) 0 14 (nI (F + (p + 3)))) 13 ((5 * m) + 2) (nI (cv_dt g (p + 2)))) 0 14 (nI (F + (p + 4)))) 13 ((5 * m) + 3) (nI (cv_dt g (p + 3)))) (cv_TQ_u (by decide) (cv_TQ_u (by decide) (cv_TQ_u (by decide) (cv_TQ_u (by decide) (cv_TQ_u (by decide) (cv_TQ_u (by decide) (cv_TQ_u (by decide) hT))))))) ((congrFun (cv_u_c (by omega)) _).trans cv_u_s) (by omega) (by decide) (by decide)) (by decide) rfl rfl rfl (by decide +kernel) rfl wmX7_77 wi_yX7_digit ws_yX7_digit wn_X7 wc_yX7_digit (by decide) (by decide) (D 141 (223, .invokevirtual 77, 3) rfl) (Nat.le_of_ble_eq_true rfl) rfl (fun w223 u223 h223 => ?_)
                          rcases h223 with ⟨c223, e223, f223⟩ | ⟨c223, e223, f223⟩
                          · skip
                            rw [e223, f223]
                            show cv_At X _ _ (cv_u (cv_u (cv_u (cv_u (cv_u (cv_u (cv_u (cv_u μ 13 (5 * m) (nI 2)) 0 14 (nI (F + (p + 2)))) 13 ((5 * m) + 1) (nI (cv_dt g (p + 1)))) 0 14 (nI (F + (p + 3)))) 13 ((5 * m) + 2) (nI (cv_dt g (p + 2)))) 0 14 (nI (F + (p + 4)))) 13 ((5 * m) + 3) (nI (cv_dt g (p + 3)))) 0 14 (nI (F + (p + 5)))) 226 _ [.int (nI (cv_dt g (p + 4))), .int (nI ((5 * m) + 4)), .ref 13]
                            obtain ⟨q223, r223, s223⟩ := cv_dt_of (g := g) (p := p + 4) (lo := 0) (hi := 9) (by decide) (by decide) c223.2
                            have k5 := cv_gn_s k4 ⟨c223.1, by rw [cv_go_p5 hpm hm]; exact c223.2⟩
                            refine cv_iast C (pc' := 227) rfl (k0 := 13) (j := (5 * m) + 4) (by decide) rfl rfl (by omega) (by decide) (D 142 (226, .iastore, 1) rfl) ?_
                            refine cv_aload_n C (pc' := 228) rfl (D 143 (227, .aload_n 0, 1) rfl) rfl (j := 2) rfl ?_
                            refine cv_dup C (pc' := 229) rfl (D 144 (228, .dup, 1) rfl) rfl ?_
                            refine cv_get C (pc' := 232) rfl (k0 := 0) (i := 15) (ci := 7) (by decide) rfl rfl (by decide) (o := none) rfl iw_X7 wfX7_102 (D 145 (229, .getfield 102, 3) rfl) (v := .int (nI m)) (congrArg Value.int ((congrFun (cv_u_c (by omega)) _).trans ((cv_u_i (by omega)).trans ((congrFun (cv_u_c (by omega)) _).trans ((cv_u_i (by omega)).trans ((congrFun (cv_u_c (by omega)) _).trans ((cv_u_i (by omega)).trans ((congrFun (cv_u_c (by omega)) _).trans ((cv_u_i (by omega)).trans ((congrFun (cv_u_c (by omega)) _).trans hM)))))))))) ?_
                            refine cv_iconst C (pc' := 233) rfl (D 146 (232, .iconst 1, 1) rfl) (v := nI 1) (by decide) ?_
                            refine cv_iaddN C (pc' := 234) rfl (D 147 (233, .iadd, 1) rfl) ?_
                            refine cv_put C (pc' := 237) rfl (k0 := 0) (i := 15) (ci := 7) (by decide) rfl rfl (by decide) rfl iw_X7 tyX7 tyX7_ok nmX7 wfX7_102 rfl rfl rfl (D 148 (234, .putfield 102, 3) rfl) ?_
                            refine cv_aload_n C (pc' := 238) rfl (D 149 (237, .aload_n 0, 1) rfl) rfl (j := 2) rfl ?_
                            refine cv_get C (pc' := 241) rfl (k0 := 0) (i := 18) (ci := 7) (by decide) rfl rfl (by decide) (o := some 13) rfl iw_X7 wfX7_50 (D 150 (238, .getfield 50, 3) rfl) rfl ?_
                            refine cv_iload_n C (pc' := 242) rfl (D 151 (241, .iload_n 2, 1) rfl) rfl (j := 1) rfl ?_
                            refine cv_iconst C (pc' := 243) rfl (D 152 (242, .iconst 4, 1) rfl) (v := nI 4) (by decide) ?_
                            refine cv_iaddN C (pc' := 244) rfl (D 153 (243, .iadd, 1) rfl) ?_
                            refine cv_iald C (pc' := 245) rfl (k0 := 13) (j := (5 * m) + 4) (by decide) rfl rfl (by omega) (by decide) (D 154 (244, .iaload, 1) rfl) (v := nI (cv_dt g (p + 4))) ((congrFun (cv_u_c (by omega)) _).trans cv_u_s) ?_
                            refine cv_bipush C (pc' := 247) rfl (D 155 (245, .bipush (-9), 2) rfl) (v := -9) (by decide) ?_
                            refine cv_icmp_eq C (pc' := 250) rfl (tgt := 254) (D 156 (247, .if_icmp .eq 7, 3) rfl) (by decide) (fun b247 => ?_) (fun b247 => ?_)
                            · skip
                              exact absurd b247 (cv_m9 (by omega))
                            · skip
                              refine cv_iconst C (pc' := 251) rfl (D 157 (250, .iconst 1, 1) rfl) (v := nI 1) (by decide) ?_
                              refine cv_goto C (tgt := 255) (D 158 (251, .goto 4, 3) rfl) (by decide) ?_
                              exact cv_iret C Rt (by decide) (D 160 (255, .ireturn, 1) rfl) (Or.inl ⟨rfl, k5, ((cv_u_i (by omega)).trans ((congrFun (cv_u_c (by omega)) _).trans cv_u_s)), cv_u_s, (fun i hi => by match i, hi with | 0, _ => exact (((congrFun (cv_u_c (by omega)) _).trans ((cv_u_i (by omega)).trans ((congrFun (cv_u_c (by omega)) _).trans ((cv_u_i (by omega)).trans ((congrFun (cv_u_c (by omega)) _).trans ((cv_u_i (by omega)).trans ((congrFun (cv_u_c (by omega)) _).trans ((cv_u_i (by omega)).trans ((congrFun (cv_u_c (by omega)) _).trans cv_u_s)))))))))).trans (congrArg nI (by rw [hpm] at hkd; show _ = (cv_kd (g (21 + 6 * m + 1))).getD 0; rw [hkd]; rfl)) | 1, _ => exact (((congrFun (cv_u_c (by omega)) _).trans ((cv_u_i (by omega)).trans ((congrFun (cv_u_c (by omega)) _).trans ((cv_u_i (by omega)).trans ((congrFun (cv_u_c (by omega)) _).trans ((cv_u_i (by omega)).trans ((congrFun (cv_u_c (by omega)) _).trans cv_u_s)))))))).trans (congrArg nI (by rw [hpm]; rfl)) | 2, _ => exact (((congrFun (cv_u_c (by omega)) _).trans ((cv_u_i (by omega)).trans ((congrFun (cv_u_c (by omega)) _).trans ((cv_u_i (by omega)).trans ((congrFun (cv_u_c (by omega)) _).trans cv_u_s)))))).trans (congrArg nI (by rw [hpm]; rfl)) | 3, _ => exact (((congrFun (cv_u_c (by omega)) _).trans ((cv_u_i (by omega)).trans ((congrFun (cv_u_c (by omega)) _).trans cv_u_s)))).trans (congrArg nI (by rw [hpm]; rfl)) | 4, _ => exact (((congrFun (cv_u_c (by omega)) _).trans cv_u_s)).trans (congrArg nI (by rw [hpm]; rfl))), (cv_fq_0 (cv_fq_13 (cv_fq_0 (cv_fq_13 (cv_fq_0 (cv_fq_13 (cv_fq_0 (cv_fq_13 (cv_fq_0 (cv_fq_13 (cv_fq_r m μ) (by omega)) (by decide)) (by omega)) (by decide)) (by omega)) (by decide)) (by omega)) (by decide)) (by omega)) (by decide))⟩)
                          · skip
                            rw [e223, f223]
                            show cv_At X _ _ (cv_u (cv_u (cv_u (cv_u (cv_u (cv_u (cv_u μ 13 (5 * m) (nI 2)) 0 14 (nI (F + (p + 2)))) 13 ((5 * m) + 1) (nI (cv_dt g (p + 1)))) 0 14 (nI (F + (p + 3)))) 13 ((5 * m) + 2) (nI (cv_dt g (p + 2)))) 0 14 (nI (F + (p + 4)))) 13 ((5 * m) + 3) (nI (cv_dt g (p + 3)))) 226 _ [.int (-9), .int (nI ((5 * m) + 4)), .ref 13]
                            refine cv_iast C (pc' := 227) rfl (k0 := 13) (j := (5 * m) + 4) (by decide) rfl rfl (by omega) (by decide) (D 142 (226, .iastore, 1) rfl) ?_
                            refine cv_aload_n C (pc' := 228) rfl (D 143 (227, .aload_n 0, 1) rfl) rfl (j := 2) rfl ?_
                            refine cv_dup C (pc' := 229) rfl (D 144 (228, .dup, 1) rfl) rfl ?_
                            refine cv_get C (pc' := 232) rfl (k0 := 0) (i := 15) (ci := 7) (by decide) rfl rfl (by decide) (o := none) rfl iw_X7 wfX7_102 (D 145 (229, .getfield 102, 3) rfl) (v := .int (nI m)) (congrArg Value.int ((congrFun (cv_u_c (by omega)) _).trans ((congrFun (cv_u_c (by omega)) _).trans ((cv_u_i (by omega)).trans ((congrFun (cv_u_c (by omega)) _).trans ((cv_u_i (by omega)).trans ((congrFun (cv_u_c (by omega)) _).trans ((cv_u_i (by omega)).trans ((congrFun (cv_u_c (by omega)) _).trans hM))))))))) ?_
                            refine cv_iconst C (pc' := 233) rfl (D 146 (232, .iconst 1, 1) rfl) (v := nI 1) (by decide) ?_
                            refine cv_iaddN C (pc' := 234) rfl (D 147 (233, .iadd, 1) rfl) ?_
                            refine cv_put C (pc' := 237) rfl (k0 := 0) (i := 15) (ci := 7) (by decide) rfl rfl (by decide) rfl iw_X7 tyX7 tyX7_ok nmX7 wfX7_102 rfl rfl rfl (D 148 (234, .putfield 102, 3) rfl) ?_
                            refine cv_aload_n C (pc' := 238) rfl (D 149 (237, .aload_n 0, 1) rfl) rfl (j := 2) rfl ?_
                            refine cv_get C (pc' := 241) rfl (k0 := 0) (i := 18) (ci := 7) (by decide) rfl rfl (by decide) (o := some 13) rfl iw_X7 wfX7_50 (D 150 (238, .getfield 50, 3) rfl) rfl ?_
                            refine cv_iload_n C (pc' := 242) rfl (D 151 (241, .iload_n 2, 1) rfl) rfl (j := 1) rfl ?_
                            refine cv_iconst C (pc' := 243) rfl (D 152 (242, .iconst 4, 1) rfl) (v := nI 4) (by decide) ?_
                            refine cv_iaddN C (pc' := 244) rfl (D 153 (243, .iadd, 1) rfl) ?_
                            refine cv_iald C (pc' := 245) rfl (k0 := 13) (j := (5 * m) + 4) (by decide) rfl rfl (by omega) (by decide) (D 154 (244, .iaload, 1) rfl) (v := -9) ((congrFun (cv_u_c (by omega)) _).trans cv_u_s) ?_
                            refine cv_bipush C (pc' := 247) rfl (D 155 (245, .bipush (-9), 2) rfl) (v := -9) (by decide) ?_
                            refine cv_icmp_eq C (pc' := 250) rfl (tgt := 254) (D 156 (247, .if_icmp .eq 7, 3) rfl) (by decide) (fun _ => ?_) (fun h => absurd h (by decide))
                            refine cv_iconst C (pc' := 255) rfl (D 159 (254, .iconst 0, 1) rfl) (v := nI 0) (by decide) ?_
                            exact cv_iret C Rt (by decide) (D 160 (255, .ireturn, 1) rfl) (Or.inr ⟨rfl, p + 4, cv_FP_mk k4 (fun h => c223 ⟨h.1, by rw [← cv_go_p5 hpm hm]; exact h.2⟩) (by omega), ((cv_u_i (by omega)).trans ((congrFun (cv_u_c (by omega)) _).trans ((congrFun (cv_u_c (by omega)) _).trans cv_u_s))), (cv_fq_0 (cv_fq_13 (cv_fq_13 (cv_fq_0 (cv_fq_13 (cv_fq_0 (cv_fq_13 (cv_fq_0 (cv_fq_13 (cv_fq_r m μ) (by omega)) (by decide)) (by omega)) (by decide)) (by omega)) (by decide)) (by omega)) (by omega)) (by decide))⟩)
                        · skip
                          exact absurd b206 (cv_m9 (by omega))
                      · skip
                        rw [e192, f192]
                        show cv_At X _ _ (cv_u (cv_u (cv_u (cv_u (cv_u μ 13 (5 * m) (nI 2)) 0 14 (nI (F + (p + 2)))) 13 ((5 * m) + 1) (nI (cv_dt g (p + 1)))) 0 14 (nI (F + (p + 3)))) 13 ((5 * m) + 2) (nI (cv_dt g (p + 2)))) 195 _ [.int (-9), .int (nI ((5 * m) + 3)), .ref 13]
                        refine cv_iast C (pc' := 196) rfl (k0 := 13) (j := (5 * m) + 3) (by decide) rfl rfl (by omega) (by decide) (D 121 (195, .iastore, 1) rfl) ?_
                        refine cv_aload_n C (pc' := 197) rfl (D 122 (196, .aload_n 0, 1) rfl) rfl (j := 2) rfl ?_
                        refine cv_get C (pc' := 200) rfl (k0 := 0) (i := 18) (ci := 7) (by decide) rfl rfl (by decide) (o := some 13) rfl iw_X7 wfX7_50 (D 123 (197, .getfield 50, 3) rfl) rfl ?_
                        refine cv_iload_n C (pc' := 201) rfl (D 124 (200, .iload_n 2, 1) rfl) rfl (j := 1) rfl ?_
                        refine cv_iconst C (pc' := 202) rfl (D 125 (201, .iconst 3, 1) rfl) (v := nI 3) (by decide) ?_
                        refine cv_iaddN C (pc' := 203) rfl (D 126 (202, .iadd, 1) rfl) ?_
                        refine cv_iald C (pc' := 204) rfl (k0 := 13) (j := (5 * m) + 3) (by decide) rfl rfl (by omega) (by decide) (D 127 (203, .iaload, 1) rfl) (v := -9) cv_u_s ?_
                        refine cv_bipush C (pc' := 206) rfl (D 128 (204, .bipush (-9), 2) rfl) (v := -9) (by decide) ?_
                        refine cv_icmp_ne C (pc' := 209) rfl (tgt := 211) (D 129 (206, .if_icmp .ne 5, 3) rfl) (by decide) (fun h => absurd h (by decide)) (fun _ => ?_)
                        refine cv_iconst C (pc' := 210) rfl (D 130 (209, .iconst 0, 1) rfl) (v := nI 0) (by decide) ?_
                        exact cv_iret C Rt (by decide) (D 131 (210, .ireturn, 1) rfl) (Or.inr ⟨rfl, p + 3, cv_FP_mk k3 (fun h => c192 ⟨h.1, by rw [← cv_go_p4 hpm hm]; exact h.2⟩) (by omega), ((congrFun (cv_u_c (by omega)) _).trans ((congrFun (cv_u_c (by omega)) _).trans cv_u_s)), (cv_fq_13 (cv_fq_13 (cv_fq_0 (cv_fq_13 (cv_fq_0 (cv_fq_13 (cv_fq_r m μ) (by omega)) (by decide)) (by omega)) (by decide)) (by omega)) (by omega))⟩)
                    · skip
                      exact absurd b176 (cv_m9 (by omega))
                  · skip
                    rw [e162, f162]
                    show cv_At X _ _ (cv_u (cv_u (cv_u μ 13 (5 * m) (nI 2)) 0 14 (nI (F + (p + 2)))) 13 ((5 * m) + 1) (nI (cv_dt g (p + 1)))) 165 _ [.int (-9), .int (nI ((5 * m) + 2)), .ref 13]
                    refine cv_iast C (pc' := 166) rfl (k0 := 13) (j := (5 * m) + 2) (by decide) rfl rfl (by omega) (by decide) (D 100 (165, .iastore, 1) rfl) ?_
                    refine cv_aload_n C (pc' := 167) rfl (D 101 (166, .aload_n 0, 1) rfl) rfl (j := 2) rfl ?_
                    refine cv_get C (pc' := 170) rfl (k0 := 0) (i := 18) (ci := 7) (by decide) rfl rfl (by decide) (o := some 13) rfl iw_X7 wfX7_50 (D 102 (167, .getfield 50, 3) rfl) rfl ?_
                    refine cv_iload_n C (pc' := 171) rfl (D 103 (170, .iload_n 2, 1) rfl) rfl (j := 1) rfl ?_
                    refine cv_iconst C (pc' := 172) rfl (D 104 (171, .iconst 2, 1) rfl) (v := nI 2) (by decide) ?_
                    refine cv_iaddN C (pc' := 173) rfl (D 105 (172, .iadd, 1) rfl) ?_
                    refine cv_iald C (pc' := 174) rfl (k0 := 13) (j := (5 * m) + 2) (by decide) rfl rfl (by omega) (by decide) (D 106 (173, .iaload, 1) rfl) (v := -9) cv_u_s ?_
                    refine cv_bipush C (pc' := 176) rfl (D 107 (174, .bipush (-9), 2) rfl) (v := -9) (by decide) ?_
                    refine cv_icmp_ne C (pc' := 179) rfl (tgt := 181) (D 108 (176, .if_icmp .ne 5, 3) rfl) (by decide) (fun h => absurd h (by decide)) (fun _ => ?_)
                    refine cv_iconst C (pc' := 180) rfl (D 109 (179, .iconst 0, 1) rfl) (v := nI 0) (by decide) ?_
                    exact cv_iret C Rt (by decide) (D 110 (180, .ireturn, 1) rfl) (Or.inr ⟨rfl, p + 2, cv_FP_mk k2 (fun h => c162 ⟨h.1, by have := h.2; rw [cv_go_p3 hpm hm, Bool.and_eq_true] at this; exact this.1⟩) (by omega), ((congrFun (cv_u_c (by omega)) _).trans ((congrFun (cv_u_c (by omega)) _).trans cv_u_s)), (cv_fq_13 (cv_fq_13 (cv_fq_0 (cv_fq_13 (cv_fq_r m μ) (by omega)) (by decide)) (by omega)) (by omega))⟩)
                · skip
                  refine cv_iconst C (pc' := 150) rfl (D 88 (149, .iconst 0, 1) rfl) (v := nI 0) (by decide) ?_
                  exact cv_iret C Rt (by decide) (D 89 (150, .ireturn, 1) rfl) (Or.inr ⟨rfl, p + 2, cv_FP_mk k2 (fun h => by have := h.2; rw [cv_go_p3 hpm hm, decide_eq_false (fun h9 => h9 (cv_sub_in (b146.trans q101.symm))), Bool.and_false] at this; cases this) (by omega), ((congrFun (cv_u_c (by omega)) _).trans cv_u_s), (cv_fq_13 (cv_fq_0 (cv_fq_13 (cv_fq_r m μ) (by omega)) (by decide)) (by omega))⟩)
          · skip
            rw [e101, f101]
            show cv_At X _ _ (cv_u (cv_u μ 13 (5 * m) (nI 2)) 0 14 (nI (F + (p + 1)))) 104 _ [.int (-9), .int (nI ((5 * m) + 1)), .ref 13]
            refine cv_iast C (pc' := 105) rfl (k0 := 13) (j := (5 * m) + 1) (by decide) rfl rfl (by omega) (by decide) (D 61 (104, .iastore, 1) rfl) ?_
            refine cv_aload_n C (pc' := 106) rfl (D 62 (105, .aload_n 0, 1) rfl) rfl (j := 2) rfl ?_
            refine cv_get C (pc' := 109) rfl (k0 := 0) (i := 18) (ci := 7) (by decide) rfl rfl (by decide) (o := some 13) rfl iw_X7 wfX7_50 (D 63 (106, .getfield 50, 3) rfl) rfl ?_
            refine cv_iload_n C (pc' := 110) rfl (D 64 (109, .iload_n 2, 1) rfl) rfl (j := 1) rfl ?_
            refine cv_iconst C (pc' := 111) rfl (D 65 (110, .iconst 1, 1) rfl) (v := nI 1) (by decide) ?_
            refine cv_iaddN C (pc' := 112) rfl (D 66 (111, .iadd, 1) rfl) ?_
            refine cv_iald C (pc' := 113) rfl (k0 := 13) (j := (5 * m) + 1) (by decide) rfl rfl (by omega) (by decide) (D 67 (112, .iaload, 1) rfl) (v := -9) cv_u_s ?_
            refine cv_bipush C (pc' := 115) rfl (D 68 (113, .bipush (-9), 2) rfl) (v := -9) (by decide) ?_
            refine cv_icmp_eq C (pc' := 118) rfl (tgt := 149) (D 69 (115, .if_icmp .eq 34, 3) rfl) (by decide) (fun _ => ?_) (fun h => absurd h (by decide))
            refine cv_iconst C (pc' := 150) rfl (D 88 (149, .iconst 0, 1) rfl) (v := nI 0) (by decide) ?_
            exact cv_iret C Rt (by decide) (D 89 (150, .ireturn, 1) rfl) (Or.inr ⟨rfl, p + 1, cv_FP_mk k1 (fun h => c101 ⟨h.1, by rw [← cv_go_p2 hpm hm]; exact h.2⟩) (by omega), ((congrFun (cv_u_c (by omega)) _).trans cv_u_s), (cv_fq_13 (cv_fq_0 (cv_fq_13 (cv_fq_r m μ) (by omega)) (by decide)) (by omega))⟩)
      · skip
        refine cv_iconst C (pc' := 51) rfl (D 28 (50, .iconst 1, 1) rfl) (v := nI 1) (by decide) ?_
        refine cv_goto C (tgt := 66) (D 29 (51, .goto 15, 3) rfl) (by decide) ?_
        refine cv_iast C (pc' := 67) rfl (k0 := 13) (j := 5 * m) (by decide) rfl rfl (by omega) (by decide) (D 36 (66, .iastore, 1) rfl) ?_
        refine cv_aload_n C (pc' := 68) rfl (D 37 (67, .aload_n 0, 1) rfl) rfl (j := 2) rfl ?_
        refine cv_get C (pc' := 71) rfl (k0 := 0) (i := 18) (ci := 7) (by decide) rfl rfl (by decide) (o := some 13) rfl iw_X7 wfX7_50 (D 38 (68, .getfield 50, 3) rfl) rfl ?_
        refine cv_iload_n C (pc' := 72) rfl (D 39 (71, .iload_n 2, 1) rfl) rfl (j := 1) rfl ?_
        refine cv_iald C (pc' := 73) rfl (k0 := 13) (j := 5 * m) (by decide) rfl rfl (by omega) (by decide) (D 40 (72, .iaload, 1) rfl) (v := nI 1) cv_u_s ?_
        refine cv_bipush C (pc' := 75) rfl (D 41 (73, .bipush (-9), 2) rfl) (v := -9) (by decide) ?_
        refine cv_icmp_ne C (pc' := 78) rfl (tgt := 80) (D 42 (75, .if_icmp .ne 5, 3) rfl) (by decide) (fun _ => ?_) (fun h => absurd h (by decide))
        have hkd : cv_kd (g p) = some 1 := (by unfold cv_kd; rw [if_neg b37, if_pos b47])
        have k1 := cv_gn_s hgo ⟨by omega, by rw [cv_go_p1 hpm hm, hkd]; rfl⟩
        refine cv_aload_n C (pc' := 81) rfl (D 45 (80, .aload_n 0, 1) rfl) rfl (j := 2) rfl ?_
        refine cv_dup C (pc' := 82) rfl (D 46 (81, .dup, 1) rfl) rfl ?_
        refine cv_get C (pc' := 85) rfl (k0 := 0) (i := 14) (ci := 7) (by decide) rfl rfl (by decide) (o := none) rfl iw_X7 wfX7_74 (D 47 (82, .getfield 74, 3) rfl) (v := .int (nI (F + p))) (congrArg Value.int ((congrFun (cv_u_c (by omega)) _).trans hA)) ?_
        refine cv_iconst C (pc' := 86) rfl (D 48 (85, .iconst 1, 1) rfl) (v := nI 1) (by decide) ?_
        refine cv_iaddN C (pc' := 87) rfl (D 49 (86, .iadd, 1) rfl) ?_
        refine cv_top (w := nI (F + (p + 1))) rfl ?_
        refine cv_put C (pc' := 90) rfl (k0 := 0) (i := 14) (ci := 7) (by decide) rfl rfl (by decide) rfl iw_X7 tyX7 tyX7_ok nmX7 wfX7_74 rfl rfl rfl (D 50 (87, .putfield 74, 3) rfl) ?_
        refine cv_aload_n C (pc' := 91) rfl (D 51 (90, .aload_n 0, 1) rfl) rfl (j := 2) rfl ?_
        refine cv_get C (pc' := 94) rfl (k0 := 0) (i := 18) (ci := 7) (by decide) rfl rfl (by decide) (o := some 13) rfl iw_X7 wfX7_50 (D 52 (91, .getfield 50, 3) rfl) rfl ?_
        refine cv_iload_n C (pc' := 95) rfl (D 53 (94, .iload_n 2, 1) rfl) rfl (j := 1) rfl ?_
        refine cv_iconst C (pc' := 96) rfl (D 54 (95, .iconst 1, 1) rfl) (v := nI 1) (by decide) ?_
        refine cv_iaddN C (pc' := 97) rfl (D 55 (96, .iadd, 1) rfl) ?_
        refine cv_aload_n C (pc' := 98) rfl (D 56 (97, .aload_n 0, 1) rfl) rfl (j := 2) rfl ?_
        refine cv_iload_n C (pc' := 99) rfl (D 57 (98, .iload_n 1, 1) rfl) rfl (j := 3) rfl ?_
        refine cv_iconst C (pc' := 100) rfl (D 58 (99, .iconst 0, 1) rfl) (v := nI 0) (by decide) ?_
        refine cv_iconst C (pc' := 101) rfl (D 59 (100, .iconst 2, 1) rfl) (v := nI 2) (by decide) ?_
        refine cv_callV C (pc' := 104) rfl (k0 := 0) (ci := 7) (As := [.int (nI (F + n)), .int (nI 0), .int (nI 2)]) (rest := [.int (nI ((5 * m) + 1)), .ref 13]) (idx := 77) (np := 3) (kX7_digit g n F (p + 1) 0 2 (cv_u (cv_u μ 13 (5 * m) (nI 1)) 0 14 (nI (F + (p + 1)))) (cv_TQ_u (by decide) (cv_TQ_u (by decide) hT)) cv_u_s (by omega) (by decide) (by decide)) (by decide) rfl rfl rfl (by decide +kernel) rfl wmX7_77 wi_yX7_digit ws_yX7_digit wn_X7 wc_yX7_digit (by decide) (by decide) (D 60 (101, .invokevirtual 77, 3) rfl) (Nat.le_of_ble_eq_true rfl) rfl (fun w101 u101 h101 => ?_)
        rcases h101 with ⟨c101, e101, f101⟩ | ⟨c101, e101, f101⟩
        · skip
          rw [e101, f101]
          rw [cv_uu]
          show cv_At X _ _ (cv_u (cv_u μ 13 (5 * m) (nI 1)) 0 14 (nI (F + (p + 2)))) 104 _ [.int (nI (cv_dt g (p + 1))), .int (nI ((5 * m) + 1)), .ref 13]
          obtain ⟨q101, r101, s101⟩ := cv_dt_of (g := g) (p := p + 1) (lo := 0) (hi := 2) (by decide) (by decide) c101.2
          have k2 := cv_gn_s k1 ⟨c101.1, by rw [cv_go_p2 hpm hm]; exact c101.2⟩
          refine cv_iast C (pc' := 105) rfl (k0 := 13) (j := (5 * m) + 1) (by decide) rfl rfl (by omega) (by decide) (D 61 (104, .iastore, 1) rfl) ?_
          refine cv_aload_n C (pc' := 106) rfl (D 62 (105, .aload_n 0, 1) rfl) rfl (j := 2) rfl ?_
          refine cv_get C (pc' := 109) rfl (k0 := 0) (i := 18) (ci := 7) (by decide) rfl rfl (by decide) (o := some 13) rfl iw_X7 wfX7_50 (D 63 (106, .getfield 50, 3) rfl) rfl ?_
          refine cv_iload_n C (pc' := 110) rfl (D 64 (109, .iload_n 2, 1) rfl) rfl (j := 1) rfl ?_
          refine cv_iconst C (pc' := 111) rfl (D 65 (110, .iconst 1, 1) rfl) (v := nI 1) (by decide) ?_
          refine cv_iaddN C (pc' := 112) rfl (D 66 (111, .iadd, 1) rfl) ?_
          refine cv_iald C (pc' := 113) rfl (k0 := 13) (j := (5 * m) + 1) (by decide) rfl rfl (by omega) (by decide) (D 67 (112, .iaload, 1) rfl) (v := nI (cv_dt g (p + 1))) cv_u_s ?_
          refine cv_bipush C (pc' := 115) rfl (D 68 (113, .bipush (-9), 2) rfl) (v := -9) (by decide) ?_
          refine cv_icmp_eq C (pc' := 118) rfl (tgt := 149) (D 69 (115, .if_icmp .eq 34, 3) rfl) (by decide) (fun b115 => ?_) (fun b115 => ?_)
          · skip
            exact absurd b115 (cv_m9 (by omega))
          · skip
            refine cv_aload_n C (pc' := 119) rfl (D 70 (118, .aload_n 0, 1) rfl) rfl (j := 2) rfl ?_
            refine cv_get C (pc' := 122) rfl (k0 := 0) (i := 14) (ci := 7) (by decide) rfl rfl (by decide) (o := none) rfl iw_X7 wfX7_74 (D 71 (119, .getfield 74, 3) rfl) (v := .int (nI (F + (p + 2)))) (congrArg Value.int ((congrFun (cv_u_c (by omega)) _).trans cv_u_s)) ?_
            refine cv_iload_n C (pc' := 123) rfl (D 72 (122, .iload_n 1, 1) rfl) rfl (j := 3) rfl ?_
            refine cv_icmp_geN C (pc' := 126) rfl (by omega) (by omega) (tgt := 151) (D 73 (123, .if_icmp .ge 28, 3) rfl) (by decide) (fun b123 => ?_) (fun b123 => ?_)
            · skip
              refine cv_aload_n C (pc' := 152) rfl (D 90 (151, .aload_n 0, 1) rfl) rfl (j := 2) rfl ?_
              refine cv_get C (pc' := 155) rfl (k0 := 0) (i := 18) (ci := 7) (by decide) rfl rfl (by decide) (o := some 13) rfl iw_X7 wfX7_50 (D 91 (152, .getfield 50, 3) rfl) rfl ?_
              refine cv_iload_n C (pc' := 156) rfl (D 92 (155, .iload_n 2, 1) rfl) rfl (j := 1) rfl ?_
              refine cv_iconst C (pc' := 157) rfl (D 93 (156, .iconst 2, 1) rfl) (v := nI 2) (by decide) ?_
              refine cv_iaddN C (pc' := 158) rfl (D 94 (157, .iadd, 1) rfl) ?_
              refine cv_aload_n C (pc' := 159) rfl (D 95 (158, .aload_n 0, 1) rfl) rfl (j := 2) rfl ?_
              refine cv_iload_n C (pc' := 160) rfl (D 96 (159, .iload_n 1, 1) rfl) rfl (j := 3) rfl ?_
              refine cv_iconst C (pc' := 161) rfl (D 97 (160, .iconst 0, 1) rfl) (v := nI 0) (by decide) ?_
              refine cv_iconst C (pc' := 162) rfl (D 98 (161, .iconst 2, 1) rfl) (v := nI 2) (by decide) ?_
              refine cv_callV C (pc' := 165) rfl (k0 := 0) (ci := 7) (As := [.int (nI (F + n)), .int (nI 0), .int (nI 2)]) (rest := [.int (nI ((5 * m) + 2)), .ref 13]) (idx := 77) (np := 3) (kX7_digit g n F (p + 2) 0 2 (cv_u (cv_u (cv_u μ 13 (5 * m) (nI 1)) 0 14 (nI (F + (p + 2)))) 13 ((5 * m) + 1) (nI (cv_dt g (p + 1)))) (cv_TQ_u (by decide) (cv_TQ_u (by decide) (cv_TQ_u (by decide) hT))) ((congrFun (cv_u_c (by omega)) _).trans cv_u_s) (by omega) (by decide) (by decide)) (by decide) rfl rfl rfl (by decide +kernel) rfl wmX7_77 wi_yX7_digit ws_yX7_digit wn_X7 wc_yX7_digit (by decide) (by decide) (D 99 (162, .invokevirtual 77, 3) rfl) (Nat.le_of_ble_eq_true rfl) rfl (fun w162 u162 h162 => ?_)
              rcases h162 with ⟨c162, e162, f162⟩ | ⟨c162, e162, f162⟩
              · skip
                rw [e162, f162]
                exact absurd c162.1 (by omega)
              · skip
                rw [e162, f162]
                show cv_At X _ _ (cv_u (cv_u (cv_u μ 13 (5 * m) (nI 1)) 0 14 (nI (F + (p + 2)))) 13 ((5 * m) + 1) (nI (cv_dt g (p + 1)))) 165 _ [.int (-9), .int (nI ((5 * m) + 2)), .ref 13]
                refine cv_iast C (pc' := 166) rfl (k0 := 13) (j := (5 * m) + 2) (by decide) rfl rfl (by omega) (by decide) (D 100 (165, .iastore, 1) rfl) ?_
                refine cv_aload_n C (pc' := 167) rfl (D 101 (166, .aload_n 0, 1) rfl) rfl (j := 2) rfl ?_
                refine cv_get C (pc' := 170) rfl (k0 := 0) (i := 18) (ci := 7) (by decide) rfl rfl (by decide) (o := some 13) rfl iw_X7 wfX7_50 (D 102 (167, .getfield 50, 3) rfl) rfl ?_
                refine cv_iload_n C (pc' := 171) rfl (D 103 (170, .iload_n 2, 1) rfl) rfl (j := 1) rfl ?_
                refine cv_iconst C (pc' := 172) rfl (D 104 (171, .iconst 2, 1) rfl) (v := nI 2) (by decide) ?_
                refine cv_iaddN C (pc' := 173) rfl (D 105 (172, .iadd, 1) rfl) ?_
                refine cv_iald C (pc' := 174) rfl (k0 := 13) (j := (5 * m) + 2) (by decide) rfl rfl (by omega) (by decide) (D 106 (173, .iaload, 1) rfl) (v := -9) cv_u_s ?_
                refine cv_bipush C (pc' := 176) rfl (D 107 (174, .bipush (-9), 2) rfl) (v := -9) (by decide) ?_
                refine cv_icmp_ne C (pc' := 179) rfl (tgt := 181) (D 108 (176, .if_icmp .ne 5, 3) rfl) (by decide) (fun h => absurd h (by decide)) (fun _ => ?_)
                refine cv_iconst C (pc' := 180) rfl (D 109 (179, .iconst 0, 1) rfl) (v := nI 0) (by decide) ?_
                exact cv_iret C Rt (by decide) (D 110 (180, .ireturn, 1) rfl) (Or.inr ⟨rfl, p + 2, cv_FP_mk k2 (fun h => c162 ⟨h.1, by have := h.2; rw [cv_go_p3 hpm hm, Bool.and_eq_true] at this; exact this.1⟩) (by omega), ((congrFun (cv_u_c (by omega)) _).trans ((congrFun (cv_u_c (by omega)) _).trans cv_u_s)), (cv_fq_13 (cv_fq_13 (cv_fq_0 (cv_fq_13 (cv_fq_r m μ) (by omega)) (by decide)) (by omega)) (by omega))⟩)
            · skip
              refine cv_aload_n C (pc' := 127) rfl (D 74 (126, .aload_n 0, 1) rfl) rfl (j := 2) rfl ?_
              refine cv_get C (pc' := 130) rfl (k0 := 0) (i := 4) (ci := 7) (by decide) rfl rfl (by decide) (o := some 3) rfl iw_X7 wfX7_16 (D 75 (127, .getfield 16, 3) rfl) rfl ?_
              refine cv_aload_n C (pc' := 131) rfl (D 76 (130, .aload_n 0, 1) rfl) rfl (j := 2) rfl ?_
              refine cv_get C (pc' := 134) rfl (k0 := 0) (i := 14) (ci := 7) (by decide) rfl rfl (by decide) (o := none) rfl iw_X7 wfX7_74 (D 77 (131, .getfield 74, 3) rfl) (v := .int (nI (F + (p + 2)))) (congrArg Value.int ((congrFun (cv_u_c (by omega)) _).trans cv_u_s)) ?_
              refine cv_iald C (pc' := 135) rfl (k0 := 3) (j := F + (p + 2)) (by decide) rfl rfl (by omega) (by decide) (D 78 (134, .iaload, 1) rfl) (v := g (p + 2)) ((congrFun (cv_u_c (by omega)) _).trans ((congrFun (cv_u_c (by omega)) _).trans ((congrFun (cv_u_c (by omega)) _).trans (hT.2 _ (by omega))))) ?_
              refine cv_bipush C (pc' := 137) rfl (D 79 (135, .bipush 48, 2) rfl) (v := nI 48) (by decide) ?_
              refine cv_isub C (pc' := 138) rfl (D 80 (137, .isub, 1) rfl) ?_
              refine cv_aload_n C (pc' := 139) rfl (D 81 (138, .aload_n 0, 1) rfl) rfl (j := 2) rfl ?_
              refine cv_get C (pc' := 142) rfl (k0 := 0) (i := 18) (ci := 7) (by decide) rfl rfl (by decide) (o := some 13) rfl iw_X7 wfX7_50 (D 82 (139, .getfield 50, 3) rfl) rfl ?_
              refine cv_iload_n C (pc' := 143) rfl (D 83 (142, .iload_n 2, 1) rfl) rfl (j := 1) rfl ?_
              refine cv_iconst C (pc' := 144) rfl (D 84 (143, .iconst 1, 1) rfl) (v := nI 1) (by decide) ?_
              refine cv_iaddN C (pc' := 145) rfl (D 85 (144, .iadd, 1) rfl) ?_
              refine cv_iald C (pc' := 146) rfl (k0 := 13) (j := (5 * m) + 1) (by decide) rfl rfl (by omega) (by decide) (D 86 (145, .iaload, 1) rfl) (v := nI (cv_dt g (p + 1))) cv_u_s ?_
              refine cv_icmp_ne C (pc' := 149) rfl (tgt := 151) (D 87 (146, .if_icmp .ne 5, 3) rfl) (by decide) (fun b146 => ?_) (fun b146 => ?_)
              · skip
                refine cv_aload_n C (pc' := 152) rfl (D 90 (151, .aload_n 0, 1) rfl) rfl (j := 2) rfl ?_
                refine cv_get C (pc' := 155) rfl (k0 := 0) (i := 18) (ci := 7) (by decide) rfl rfl (by decide) (o := some 13) rfl iw_X7 wfX7_50 (D 91 (152, .getfield 50, 3) rfl) rfl ?_
                refine cv_iload_n C (pc' := 156) rfl (D 92 (155, .iload_n 2, 1) rfl) rfl (j := 1) rfl ?_
                refine cv_iconst C (pc' := 157) rfl (D 93 (156, .iconst 2, 1) rfl) (v := nI 2) (by decide) ?_
                refine cv_iaddN C (pc' := 158) rfl (D 94 (157, .iadd, 1) rfl) ?_
                refine cv_aload_n C (pc' := 159) rfl (D 95 (158, .aload_n 0, 1) rfl) rfl (j := 2) rfl ?_
                refine cv_iload_n C (pc' := 160) rfl (D 96 (159, .iload_n 1, 1) rfl) rfl (j := 3) rfl ?_
                refine cv_iconst C (pc' := 161) rfl (D 97 (160, .iconst 0, 1) rfl) (v := nI 0) (by decide) ?_
                refine cv_iconst C (pc' := 162) rfl (D 98 (161, .iconst 2, 1) rfl) (v := nI 2) (by decide) ?_
                refine cv_callV C (pc' := 165) rfl (k0 := 0) (ci := 7) (As := [.int (nI (F + n)), .int (nI 0), .int (nI 2)]) (rest := [.int (nI ((5 * m) + 2)), .ref 13]) (idx := 77) (np := 3) (kX7_digit g n F (p + 2) 0 2 (cv_u (cv_u (cv_u μ 13 (5 * m) (nI 1)) 0 14 (nI (F + (p + 2)))) 13 ((5 * m) + 1) (nI (cv_dt g (p + 1)))) (cv_TQ_u (by decide) (cv_TQ_u (by decide) (cv_TQ_u (by decide) hT))) ((congrFun (cv_u_c (by omega)) _).trans cv_u_s) (by omega) (by decide) (by decide)) (by decide) rfl rfl rfl (by decide +kernel) rfl wmX7_77 wi_yX7_digit ws_yX7_digit wn_X7 wc_yX7_digit (by decide) (by decide) (D 99 (162, .invokevirtual 77, 3) rfl) (Nat.le_of_ble_eq_true rfl) rfl (fun w162 u162 h162 => ?_)
                rcases h162 with ⟨c162, e162, f162⟩ | ⟨c162, e162, f162⟩
                · skip
                  rw [e162, f162]
                  show cv_At X _ _ (cv_u (cv_u (cv_u (cv_u μ 13 (5 * m) (nI 1)) 0 14 (nI (F + (p + 2)))) 13 ((5 * m) + 1) (nI (cv_dt g (p + 1)))) 0 14 (nI (F + (p + 3)))) 165 _ [.int (nI (cv_dt g (p + 2))), .int (nI ((5 * m) + 2)), .ref 13]
                  obtain ⟨q162, r162, s162⟩ := cv_dt_of (g := g) (p := p + 2) (lo := 0) (hi := 2) (by decide) (by decide) c162.2
                  have k3 := cv_gn_s k2 ⟨c162.1, by rw [cv_go_p3 hpm hm, c162.2, decide_eq_true (show ¬ g (p + 2) = g (p + 1) from fun h => b146 (by rw [h]; exact q101))]; rfl⟩
                  refine cv_iast C (pc' := 166) rfl (k0 := 13) (j := (5 * m) + 2) (by decide) rfl rfl (by omega) (by decide) (D 100 (165, .iastore, 1) rfl) ?_
                  refine cv_aload_n C (pc' := 167) rfl (D 101 (166, .aload_n 0, 1) rfl) rfl (j := 2) rfl ?_
                  refine cv_get C (pc' := 170) rfl (k0 := 0) (i := 18) (ci := 7) (by decide) rfl rfl (by decide) (o := some 13) rfl iw_X7 wfX7_50 (D 102 (167, .getfield 50, 3) rfl) rfl ?_
                  refine cv_iload_n C (pc' := 171) rfl (D 103 (170, .iload_n 2, 1) rfl) rfl (j := 1) rfl ?_
                  refine cv_iconst C (pc' := 172) rfl (D 104 (171, .iconst 2, 1) rfl) (v := nI 2) (by decide) ?_
                  refine cv_iaddN C (pc' := 173) rfl (D 105 (172, .iadd, 1) rfl) ?_
                  refine cv_iald C (pc' := 174) rfl (k0 := 13) (j := (5 * m) + 2) (by decide) rfl rfl (by omega) (by decide) (D 106 (173, .iaload, 1) rfl) (v := nI (cv_dt g (p + 2))) cv_u_s ?_
                  refine cv_bipush C (pc' := 176) rfl (D 107 (174, .bipush (-9), 2) rfl) (v := -9) (by decide) ?_
                  refine cv_icmp_ne C (pc' := 179) rfl (tgt := 181) (D 108 (176, .if_icmp .ne 5, 3) rfl) (by decide) (fun b176 => ?_) (fun b176 => ?_)
                  · skip
                    refine cv_aload_n C (pc' := 182) rfl (D 111 (181, .aload_n 0, 1) rfl) rfl (j := 2) rfl ?_
                    refine cv_get C (pc' := 185) rfl (k0 := 0) (i := 18) (ci := 7) (by decide) rfl rfl (by decide) (o := some 13) rfl iw_X7 wfX7_50 (D 112 (182, .getfield 50, 3) rfl) rfl ?_
                    refine cv_iload_n C (pc' := 186) rfl (D 113 (185, .iload_n 2, 1) rfl) rfl (j := 1) rfl ?_
                    refine cv_iconst C (pc' := 187) rfl (D 114 (186, .iconst 3, 1) rfl) (v := nI 3) (by decide) ?_
                    refine cv_iaddN C (pc' := 188) rfl (D 115 (187, .iadd, 1) rfl) ?_
                    refine cv_aload_n C (pc' := 189) rfl (D 116 (188, .aload_n 0, 1) rfl) rfl (j := 2) rfl ?_
                    refine cv_iload_n C (pc' := 190) rfl (D 117 (189, .iload_n 1, 1) rfl) rfl (j := 3) rfl ?_
                    refine cv_iconst C (pc' := 191) rfl (D 118 (190, .iconst 1, 1) rfl) (v := nI 1) (by decide) ?_
                    refine cv_iconst C (pc' := 192) rfl (D 119 (191, .iconst 3, 1) rfl) (v := nI 3) (by decide) ?_
                    refine cv_callV C (pc' := 195) rfl (k0 := 0) (ci := 7) (As := [.int (nI (F + n)), .int (nI 1), .int (nI 3)]) (rest := [.int (nI ((5 * m) + 3)), .ref 13]) (idx := 77) (np := 3) (kX7_digit g n F (p + 3) 1 3 (cv_u (cv_u (cv_u (cv_u (cv_u μ 13 (5 * m) (nI 1)) 0 14 (nI (F + (p + 2)))) 13 ((5 * m) + 1) (nI (cv_dt g (p + 1)))) 0 14 (nI (F + (p + 3)))) 13 ((5 * m) + 2) (nI (cv_dt g (p + 2)))) (cv_TQ_u (by decide) (cv_TQ_u (by decide) (cv_TQ_u (by decide) (cv_TQ_u (by decide) (cv_TQ_u (by decide) hT))))) ((congrFun (cv_u_c (by omega)) _).trans cv_u_s) (by omega) (by decide) (by decide)) (by decide) rfl rfl rfl (by decide +kernel) rfl wmX7_77 wi_yX7_digit ws_yX7_digit wn_X7 wc_yX7_digit (by decide) (by decide) (D 120 (192, .invokevirtual 77, 3) rfl) (Nat.le_of_ble_eq_true rfl) rfl (fun w192 u192 h192 => ?_)
                    rcases h192 with ⟨c192, e192, f192⟩ | ⟨c192, e192, f192⟩
                    · skip
                      rw [e192, f192]
                      show cv_At X _ _ (cv_u (cv_u (cv_u (cv_u (cv_u (cv_u μ 13 (5 * m) (nI 1)) 0 14 (nI (F + (p + 2)))) 13 ((5 * m) + 1) (nI (cv_dt g (p + 1)))) 0 14 (nI (F + (p + 3)))) 13 ((5 * m) + 2) (nI (cv_dt g (p + 2)))) 0 14 (nI (F + (p + 4)))) 195 _ [.int (nI (cv_dt g (p + 3))), .int (nI ((5 * m) + 3)), .ref 13]
                      obtain ⟨q192, r192, s192⟩ := cv_dt_of (g := g) (p := p + 3) (lo := 1) (hi := 3) (by decide) (by decide) c192.2
                      have k4 := cv_gn_s k3 ⟨c192.1, by rw [cv_go_p4 hpm hm]; exact c192.2⟩
                      refine cv_iast C (pc' := 196) rfl (k0 := 13) (j := (5 * m) + 3) (by decide) rfl rfl (by omega) (by decide) (D 121 (195, .iastore, 1) rfl) ?_
                      refine cv_aload_n C (pc' := 197) rfl (D 122 (196, .aload_n 0, 1) rfl) rfl (j := 2) rfl ?_
                      refine cv_get C (pc' := 200) rfl (k0 := 0) (i := 18) (ci := 7) (by decide) rfl rfl (by decide) (o := some 13) rfl iw_X7 wfX7_50 (D 123 (197, .getfield 50, 3) rfl) rfl ?_
                      refine cv_iload_n C (pc' := 201) rfl (D 124 (200, .iload_n 2, 1) rfl) rfl (j := 1) rfl ?_
                      refine cv_iconst C (pc' := 202) rfl (D 125 (201, .iconst 3, 1) rfl) (v := nI 3) (by decide) ?_
                      refine cv_iaddN C (pc' := 203) rfl (D 126 (202, .iadd, 1) rfl) ?_
                      refine cv_iald C (pc' := 204) rfl (k0 := 13) (j := (5 * m) + 3) (by decide) rfl rfl (by omega) (by decide) (D 127 (203, .iaload, 1) rfl) (v := nI (cv_dt g (p + 3))) cv_u_s ?_
                      refine cv_bipush C (pc' := 206) rfl (D 128 (204, .bipush (-9), 2) rfl) (v := -9) (by decide) ?_
                      refine cv_icmp_ne C (pc' := 209) rfl (tgt := 211) (D 129 (206, .if_icmp .ne 5, 3) rfl) (by decide) (fun b206 => ?_) (fun b206 => ?_)
                      · skip
                        refine cv_aload_n C (pc' := 212) rfl (D 132 (211, .aload_n 0, 1) rfl) rfl (j := 2) rfl ?_
                        refine cv_get C (pc' := 215) rfl (k0 := 0) (i := 18) (ci := 7) (by decide) rfl rfl (by decide) (o := some 13) rfl iw_X7 wfX7_50 (D 133 (212, .getfield 50, 3) rfl) rfl ?_
                        refine cv_iload_n C (pc' := 216) rfl (D 134 (215, .iload_n 2, 1) rfl) rfl (j := 1) rfl ?_
                        refine cv_iconst C (pc' := 217) rfl (D 135 (216, .iconst 4, 1) rfl) (v := nI 4) (by decide) ?_
                        refine cv_iaddN C (pc' := 218) rfl (D 136 (217, .iadd, 1) rfl) ?_
                        refine cv_aload_n C (pc' := 219) rfl (D 137 (218, .aload_n 0, 1) rfl) rfl (j := 2) rfl ?_
                        refine cv_iload_n C (pc' := 220) rfl (D 138 (219, .iload_n 1, 1) rfl) rfl (j := 3) rfl ?_
                        refine cv_iconst C (pc' := 221) rfl (D 139 (220, .iconst 0, 1) rfl) (v := nI 0) (by decide) ?_
                        refine cv_bipush C (pc' := 223) rfl (D 140 (221, .bipush 9, 2) rfl) (v := nI 9) (by decide) ?_
                        refine cv_callV C (pc' := 226) rfl (k0 := 0) (ci := 7) (As := [.int (nI (F + n)), .int (nI 0), .int (nI 9)]) (rest := [.int (nI ((5 * m) + 4)), .ref 13]) (idx := 77) (np := 3) (kX7_digit g n F (p + 4) 0 9 (cv_u (cv_u (cv_u (cv_u (cv_u (cv_u (cv_u μ 13 (5 * m) (nI 1)) 0 14 (nI (F + (p + 2)))) 13 ((5 * m) + 1) (nI (cv_dt g (p + 1)))) 0 14 (nI (F + (p + 3)))) 13 ((5 * m) + 2) (nI (cv_dt g (p + 2)))) 0 14 (nI (F + (p + 4)))) 13 ((5 * m) + 3) (nI (cv_dt g (p + 3)))) (cv_TQ_u (by decide) (cv_TQ_u (by decide) (cv_TQ_u (by decide) (cv_TQ_u (by decide) (cv_TQ_u (by decide) (cv_TQ_u (by decide) (cv_TQ_u (by decide) hT))))))) ((congrFun (cv_u_c (by omega)) _).trans cv_u_s) (by omega) (by decide) (by decide)) (by decide) rfl rfl rfl (by decide +kernel) rfl wmX7_77 wi_yX7_digit ws_yX7_digit wn_X7 wc_yX7_digit (by decide) (by decide) (D 141 (223, .invokevirtual 77, 3) rfl) (Nat.le_of_ble_eq_true rfl) rfl (fun w223 u223 h223 => ?_)
                        rcases h223 with ⟨c223, e223, f223⟩ | ⟨c223, e223, f223⟩
                        · skip
                          rw [e223, f223]
                          show cv_At X _ _ (cv_u (cv_u (cv_u (cv_u (cv_u (cv_u (cv_u (cv_u μ 13 (5 * m) (nI 1)) 0 14 (nI (F + (p + 2)))) 13 ((5 * m) + 1) (nI (cv_dt g (p + 1)))) 0 14 (nI (F + (p + 3)))) 13 ((5 * m) + 2) (nI (cv_dt g (p + 2)))) 0 14 (nI (F + (p + 4)))) 13 ((5 * m) + 3) (nI (cv_dt g (p + 3)))) 0 14 (nI (F + (p + 5)))) 226 _ [.int (nI (cv_dt g (p + 4))), .int (nI ((5 * m) + 4)), .ref 13]
                          obtain ⟨q223, r223, s223⟩ := cv_dt_of (g := g) (p := p + 4) (lo := 0) (hi := 9) (by decide) (by decide) c223.2
                          have k5 := cv_gn_s k4 ⟨c223.1, by rw [cv_go_p5 hpm hm]; exact c223.2⟩
                          refine cv_iast C (pc' := 227) rfl (k0 := 13) (j := (5 * m) + 4) (by decide) rfl rfl (by omega) (by decide) (D 142 (226, .iastore, 1) rfl) ?_
                          refine cv_aload_n C (pc' := 228) rfl (D 143 (227, .aload_n 0, 1) rfl) rfl (j := 2) rfl ?_
                          refine cv_dup C (pc' := 229) rfl (D 144 (228, .dup, 1) rfl) rfl ?_
                          refine cv_get C (pc' := 232) rfl (k0 := 0) (i := 15) (ci := 7) (by decide) rfl rfl (by decide) (o := none) rfl iw_X7 wfX7_102 (D 145 (229, .getfield 102, 3) rfl) (v := .int (nI m)) (congrArg Value.int ((congrFun (cv_u_c (by omega)) _).trans ((cv_u_i (by omega)).trans ((congrFun (cv_u_c (by omega)) _).trans ((cv_u_i (by omega)).trans ((congrFun (cv_u_c (by omega)) _).trans ((cv_u_i (by omega)).trans ((congrFun (cv_u_c (by omega)) _).trans ((cv_u_i (by omega)).trans ((congrFun (cv_u_c (by omega)) _).trans hM)))))))))) ?_
                          refine cv_iconst C (pc' := 233) rfl (D 146 (232, .iconst 1, 1) rfl) (v := nI 1) (by decide) ?_
                          refine cv_iaddN C (pc' := 234) rfl (D 147 (233, .iadd, 1) rfl) ?_
                          refine cv_put C (pc' := 237) rfl (k0 := 0) (i := 15) (ci := 7) (by decide) rfl rfl (by decide) rfl iw_X7 tyX7 tyX7_ok nmX7 wfX7_102 rfl rfl rfl (D 148 (234, .putfield 102, 3) rfl) ?_
                          refine cv_aload_n C (pc' := 238) rfl (D 149 (237, .aload_n 0, 1) rfl) rfl (j := 2) rfl ?_
                          refine cv_get C (pc' := 241) rfl (k0 := 0) (i := 18) (ci := 7) (by decide) rfl rfl (by decide) (o := some 13) rfl iw_X7 wfX7_50 (D 150 (238, .getfield 50, 3) rfl) rfl ?_
                          refine cv_iload_n C (pc' := 242) rfl (D 151 (241, .iload_n 2, 1) rfl) rfl (j := 1) rfl ?_
                          refine cv_iconst C (pc' := 243) rfl (D 152 (242, .iconst 4, 1) rfl) (v := nI 4) (by decide) ?_
                          refine cv_iaddN C (pc' := 244) rfl (D 153 (243, .iadd, 1) rfl) ?_
                          refine cv_iald C (pc' := 245) rfl (k0 := 13) (j := (5 * m) + 4) (by decide) rfl rfl (by omega) (by decide) (D 154 (244, .iaload, 1) rfl) (v := nI (cv_dt g (p + 4))) ((congrFun (cv_u_c (by omega)) _).trans cv_u_s) ?_
                          refine cv_bipush C (pc' := 247) rfl (D 155 (245, .bipush (-9), 2) rfl) (v := -9) (by decide) ?_
                          refine cv_icmp_eq C (pc' := 250) rfl (tgt := 254) (D 156 (247, .if_icmp .eq 7, 3) rfl) (by decide) (fun b247 => ?_) (fun b247 => ?_)
                          · skip
                            exact absurd b247 (cv_m9 (by omega))
                          · skip
                            refine cv_iconst C (pc' := 251) rfl (D 157 (250, .iconst 1, 1) rfl) (v := nI 1) (by decide) ?_
                            refine cv_goto C (tgt := 255) (D 158 (251, .goto 4, 3) rfl) (by decide) ?_
                            exact cv_iret C Rt (by decide) (D 160 (255, .ireturn, 1) rfl) (Or.inl ⟨rfl, k5, ((cv_u_i (by omega)).trans ((congrFun (cv_u_c (by omega)) _).trans cv_u_s)), cv_u_s, (fun i hi => by match i, hi with | 0, _ => exact (((congrFun (cv_u_c (by omega)) _).trans ((cv_u_i (by omega)).trans ((congrFun (cv_u_c (by omega)) _).trans ((cv_u_i (by omega)).trans ((congrFun (cv_u_c (by omega)) _).trans ((cv_u_i (by omega)).trans ((congrFun (cv_u_c (by omega)) _).trans ((cv_u_i (by omega)).trans ((congrFun (cv_u_c (by omega)) _).trans cv_u_s)))))))))).trans (congrArg nI (by rw [hpm] at hkd; show _ = (cv_kd (g (21 + 6 * m + 1))).getD 0; rw [hkd]; rfl)) | 1, _ => exact (((congrFun (cv_u_c (by omega)) _).trans ((cv_u_i (by omega)).trans ((congrFun (cv_u_c (by omega)) _).trans ((cv_u_i (by omega)).trans ((congrFun (cv_u_c (by omega)) _).trans ((cv_u_i (by omega)).trans ((congrFun (cv_u_c (by omega)) _).trans cv_u_s)))))))).trans (congrArg nI (by rw [hpm]; rfl)) | 2, _ => exact (((congrFun (cv_u_c (by omega)) _).trans ((cv_u_i (by omega)).trans ((congrFun (cv_u_c (by omega)) _).trans ((cv_u_i (by omega)).trans ((congrFun (cv_u_c (by omega)) _).trans cv_u_s)))))).trans (congrArg nI (by rw [hpm]; rfl)) | 3, _ => exact (((congrFun (cv_u_c (by omega)) _).trans ((cv_u_i (by omega)).trans ((congrFun (cv_u_c (by omega)) _).trans cv_u_s)))).trans (congrArg nI (by rw [hpm]; rfl)) | 4, _ => exact (((congrFun (cv_u_c (by omega)) _).trans cv_u_s)).trans (congrArg nI (by rw [hpm]; rfl))), (cv_fq_0 (cv_fq_13 (cv_fq_0 (cv_fq_13 (cv_fq_0 (cv_fq_13 (cv_fq_0 (cv_fq_13 (cv_fq_0 (cv_fq_13 (cv_fq_r m μ) (by omega)) (by decide)) (by omega)) (by decide)) (by omega)) (by decide)) (by omega)) (by decide)) (by omega)) (by decide))⟩)
                        · skip
                          rw [e223, f223]
                          show cv_At X _ _ (cv_u (cv_u (cv_u (cv_u (cv_u (cv_u (cv_u μ 13 (5 * m) (nI 1)) 0 14 (nI (F + (p + 2)))) 13 ((5 * m) + 1) (nI (cv_dt g (p + 1)))) 0 14 (nI (F + (p + 3)))) 13 ((5 * m) + 2) (nI (cv_dt g (p + 2)))) 0 14 (nI (F + (p + 4)))) 13 ((5 * m) + 3) (nI (cv_dt g (p + 3)))) 226 _ [.int (-9), .int (nI ((5 * m) + 4)), .ref 13]
                          refine cv_iast C (pc' := 227) rfl (k0 := 13) (j := (5 * m) + 4) (by decide) rfl rfl (by omega) (by decide) (D 142 (226, .iastore, 1) rfl) ?_
                          refine cv_aload_n C (pc' := 228) rfl (D 143 (227, .aload_n 0, 1) rfl) rfl (j := 2) rfl ?_
                          refine cv_dup C (pc' := 229) rfl (D 144 (228, .dup, 1) rfl) rfl ?_
                          refine cv_get C (pc' := 232) rfl (k0 := 0) (i := 15) (ci := 7) (by decide) rfl rfl (by decide) (o := none) rfl iw_X7 wfX7_102 (D 145 (229, .getfield 102, 3) rfl) (v := .int (nI m)) (congrArg Value.int ((congrFun (cv_u_c (by omega)) _).trans ((congrFun (cv_u_c (by omega)) _).trans ((cv_u_i (by omega)).trans ((congrFun (cv_u_c (by omega)) _).trans ((cv_u_i (by omega)).trans ((congrFun (cv_u_c (by omega)) _).trans ((cv_u_i (by omega)).trans ((congrFun (cv_u_c (by omega)) _).trans hM))))))))) ?_
                          refine cv_iconst C (pc' := 233) rfl (D 146 (232, .iconst 1, 1) rfl) (v := nI 1) (by decide) ?_
                          refine cv_iaddN C (pc' := 234) rfl (D 147 (233, .iadd, 1) rfl) ?_
                          refine cv_put C (pc' := 237) rfl (k0 := 0) (i := 15) (ci := 7) (by decide) rfl rfl (by decide) rfl iw_X7 tyX7 tyX7_ok nmX7 wfX7_102 rfl rfl rfl (D 148 (234, .putfield 102, 3) rfl) ?_
                          refine cv_aload_n C (pc' := 238) rfl (D 149 (237, .aload_n 0, 1) rfl) rfl (j := 2) rfl ?_
                          refine cv_get C (pc' := 241) rfl (k0 := 0) (i := 18) (ci := 7) (by decide) rfl rfl (by decide) (o := some 13) rfl iw_X7 wfX7_50 (D 150 (238, .getfield 50, 3) rfl) rfl ?_
                          refine cv_iload_n C (pc' := 242) rfl (D 151 (241, .iload_n 2, 1) rfl) rfl (j := 1) rfl ?_
                          refine cv_iconst C (pc' := 243) rfl (D 152 (242, .iconst 4, 1) rfl) (v := nI 4) (by decide) ?_
                          refine cv_iaddN C (pc' := 244) rfl (D 153 (243, .iadd, 1) rfl) ?_
                          refine cv_iald C (pc' := 245) rfl (k0 := 13) (j := (5 * m) + 4) (by decide) rfl rfl (by omega) (by decide) (D 154 (244, .iaload, 1) rfl) (v := -9) ((congrFun (cv_u_c (by omega)) _).trans cv_u_s) ?_
                          refine cv_bipush C (pc' := 247) rfl (D 155 (245, .bipush (-9), 2) rfl) (v := -9) (by decide) ?_
                          refine cv_icmp_eq C (pc' := 250) rfl (tgt := 254) (D 156 (247, .if_icmp .eq 7, 3) rfl) (by decide) (fun _ => ?_) (fun h => absurd h (by decide))
                          refine cv_iconst C (pc' := 255) rfl (D 159 (254, .iconst 0, 1) rfl) (v := nI 0) (by decide) ?_
                          exact cv_iret C Rt (by decide) (D 160 (255, .ireturn, 1) rfl) (Or.inr ⟨rfl, p + 4, cv_FP_mk k4 (fun h => c223 ⟨h.1, by rw [← cv_go_p5 hpm hm]; exact h.2⟩) (by omega), ((cv_u_i (by omega)).trans ((congrFun (cv_u_c (by omega)) _).trans ((congrFun (cv_u_c (by omega)) _).trans cv_u_s))), (cv_fq_0 (cv_fq_13 (cv_fq_13 (cv_fq_0 (cv_fq_13 (cv_fq_0 (cv_fq_13 (cv_fq_0 (cv_fq_13 (cv_fq_r m μ) (by omega)) (by decide)) (by omega)) (by decide)) (by omega)) (by decide)) (by omega)) (by omega)) (by decide))⟩)
                      · skip
                        exact absurd b206 (cv_m9 (by omega))
                    · skip
                      rw [e192, f192]
                      show cv_At X _ _ (cv_u (cv_u (cv_u (cv_u (cv_u μ 13 (5 * m) (nI 1)) 0 14 (nI (F + (p + 2)))) 13 ((5 * m) + 1) (nI (cv_dt g (p + 1)))) 0 14 (nI (F + (p + 3)))) 13 ((5 * m) + 2) (nI (cv_dt g (p + 2)))) 195 _ [.int (-9), .int (nI ((5 * m) + 3)), .ref 13]
                      refine cv_iast C (pc' := 196) rfl (k0 := 13) (j := (5 * m) + 3) (by decide) rfl rfl (by omega) (by decide) (D 121 (195, .iastore, 1) rfl) ?_
                      refine cv_aload_n C (pc' := 197) rfl (D 122 (196, .aload_n 0, 1) rfl) rfl (j := 2) rfl ?_
                      refine cv_get C (pc' := 200) rfl (k0 := 0) (i := 18) (ci := 7) (by decide) rfl rfl (by decide) (o := some 13) rfl iw_X7 wfX7_50 (D 123 (197, .getfield 50, 3) rfl) rfl ?_
                      refine cv_iload_n C (pc' := 201) rfl (D 124 (200, .iload_n 2, 1) rfl) rfl (j := 1) rfl ?_
                      refine cv_iconst C (pc' := 202) rfl (D 125 (201, .iconst 3, 1) rfl) (v := nI 3) (by decide) ?_
                      refine cv_iaddN C (pc' := 203) rfl (D 126 (202, .iadd, 1) rfl) ?_
                      refine cv_iald C (pc' := 204) rfl (k0 := 13) (j := (5 * m) + 3) (by decide) rfl rfl (by omega) (by decide) (D 127 (203, .iaload, 1) rfl) (v := -9) cv_u_s ?_
                      refine cv_bipush C (pc' := 206) rfl (D 128 (204, .bipush (-9), 2) rfl) (v := -9) (by decide) ?_
                      refine cv_icmp_ne C (pc' := 209) rfl (tgt := 211) (D 129 (206, .if_icmp .ne 5, 3) rfl) (by decide) (fun h => absurd h (by decide)) (fun _ => ?_)
                      refine cv_iconst C (pc' := 210) rfl (D 130 (209, .iconst 0, 1) rfl) (v := nI 0) (by decide) ?_
                      exact cv_iret C Rt (by decide) (D 131 (210, .ireturn, 1) rfl) (Or.inr ⟨rfl, p + 3, cv_FP_mk k3 (fun h => c192 ⟨h.1, by rw [← cv_go_p4 hpm hm]; exact h.2⟩) (by omega), ((congrFun (cv_u_c (by omega)) _).trans ((congrFun (cv_u_c (by omega)) _).trans cv_u_s)), (cv_fq_13 (cv_fq_13 (cv_fq_0 (cv_fq_13 (cv_fq_0 (cv_fq_13 (cv_fq_r m μ) (by omega)) (by decide)) (by omega)) (by decide)) (by omega)) (by omega))⟩)
                  · skip
                    exact absurd b176 (cv_m9 (by omega))
                · skip
                  rw [e162, f162]
                  show cv_At X _ _ (cv_u (cv_u (cv_u μ 13 (5 * m) (nI 1)) 0 14 (nI (F + (p + 2)))) 13 ((5 * m) + 1) (nI (cv_dt g (p + 1)))) 165 _ [.int (-9), .int (nI ((5 * m) + 2)), .ref 13]
                  refine cv_iast C (pc' := 166) rfl (k0 := 13) (j := (5 * m) + 2) (by decide) rfl rfl (by omega) (by decide) (D 100 (165, .iastore, 1) rfl) ?_
                  refine cv_aload_n C (pc' := 167) rfl (D 101 (166, .aload_n 0, 1) rfl) rfl (j := 2) rfl ?_
                  refine cv_get C (pc' := 170) rfl (k0 := 0) (i := 18) (ci := 7) (by decide) rfl rfl (by decide) (o := some 13) rfl iw_X7 wfX7_50 (D 102 (167, .getfield 50, 3) rfl) rfl ?_
                  refine cv_iload_n C (pc' := 171) rfl (D 103 (170, .iload_n 2, 1) rfl) rfl (j := 1) rfl ?_
                  refine cv_iconst C (pc' := 172) rfl (D 104 (171, .iconst 2, 1) rfl) (v := nI 2) (by decide) ?_
                  refine cv_iaddN C (pc' := 173) rfl (D 105 (172, .iadd, 1) rfl) ?_
                  refine cv_iald C (pc' := 174) rfl (k0 := 13) (j := (5 * m) + 2) (by decide) rfl rfl (by omega) (by decide) (D 106 (173, .iaload, 1) rfl) (v := -9) cv_u_s ?_
                  refine cv_bipush C (pc' := 176) rfl (D 107 (174, .bipush (-9), 2) rfl) (v := -9) (by decide) ?_
                  refine cv_icmp_ne C (pc' := 179) rfl (tgt := 181) (D 108 (176, .if_icmp .ne 5, 3) rfl) (by decide) (fun h => absurd h (by decide)) (fun _ => ?_)
                  refine cv_iconst C (pc' := 180) rfl (D 109 (179, .iconst 0, 1) rfl) (v := nI 0) (by decide) ?_
                  exact cv_iret C Rt (by decide) (D 110 (180, .ireturn, 1) rfl) (Or.inr ⟨rfl, p + 2, cv_FP_mk k2 (fun h => c162 ⟨h.1, by have := h.2; rw [cv_go_p3 hpm hm, Bool.and_eq_true] at this; exact this.1⟩) (by omega), ((congrFun (cv_u_c (by omega)) _).trans ((congrFun (cv_u_c (by omega)) _).trans cv_u_s)), (cv_fq_13 (cv_fq_13 (cv_fq_0 (cv_fq_13 (cv_fq_r m μ) (by omega)) (by decide)) (by omega)) (by omega))⟩)
              · skip
                refine cv_iconst C (pc' := 150) rfl (D 88 (149, .iconst 0, 1) rfl) (v := nI 0) (by decide) ?_
                exact cv_iret C Rt (by decide) (D 89 (150, .ireturn, 1) rfl) (Or.inr ⟨rfl, p + 2, cv_FP_mk k2 (fun h => by have := h.2; rw [cv_go_p3 hpm hm, decide_eq_false (fun h9 => h9 (cv_sub_in (b146.trans q101.symm))), Bool.and_false] at this; cases this) (by omega), ((congrFun (cv_u_c (by omega)) _).trans cv_u_s), (cv_fq_13 (cv_fq_0 (cv_fq_13 (cv_fq_r m μ) (by omega)) (by decide)) (by omega))⟩)
        · skip
          rw [e101, f101]
          show cv_At X _ _ (cv_u (cv_u μ 13 (5 * m) (nI 1)) 0 14 (nI (F + (p + 1)))) 104 _ [.int (-9), .int (nI ((5 * m) + 1)), .ref 13]
          refine cv_iast C (pc' := 105) rfl (k0 := 13) (j := (5 * m) + 1) (by decide) rfl rfl (by omega) (by decide) (D 61 (104, .iastore, 1) rfl) ?_
          refine cv_aload_n C (pc' := 106) rfl (D 62 (105, .aload_n 0, 1) rfl) rfl (j := 2) rfl ?_
          refine cv_get C (pc' := 109) rfl (k0 := 0) (i := 18) (ci := 7) (by decide) rfl rfl (by decide) (o := some 13) rfl iw_X7 wfX7_50 (D 63 (106, .getfield 50, 3) rfl) rfl ?_
          refine cv_iload_n C (pc' := 110) rfl (D 64 (109, .iload_n 2, 1) rfl) rfl (j := 1) rfl ?_
          refine cv_iconst C (pc' := 111) rfl (D 65 (110, .iconst 1, 1) rfl) (v := nI 1) (by decide) ?_
          refine cv_iaddN C (pc' := 112) rfl (D 66 (111, .iadd, 1) rfl) ?_
          refine cv_iald C (pc' := 113) rfl (k0 := 13) (j := (5 * m) + 1) (by decide) rfl rfl (by omega) (by decide) (D 67 (112, .iaload, 1) rfl) (v := -9) cv_u_s ?_
          refine cv_bipush C (pc' := 115) rfl (D 68 (113, .bipush (-9), 2) rfl) (v := -9) (by decide) ?_
          refine cv_icmp_eq C (pc' := 118) rfl (tgt := 149) (D 69 (115, .if_icmp .eq 34, 3) rfl) (by decide) (fun _ => ?_) (fun h => absurd h (by decide))
          refine cv_iconst C (pc' := 150) rfl (D 88 (149, .iconst 0, 1) rfl) (v := nI 0) (by decide) ?_
          exact cv_iret C Rt (by decide) (D 89 (150, .ireturn, 1) rfl) (Or.inr ⟨rfl, p + 1, cv_FP_mk k1 (fun h => c101 ⟨h.1, by rw [← cv_go_p2 hpm hm]; exact h.2⟩) (by omega), ((congrFun (cv_u_c (by omega)) _).trans cv_u_s), (cv_fq_13 (cv_fq_0 (cv_fq_13 (cv_fq_r m μ) (by omega)) (by decide)) (by omega))⟩)
    · skip
      refine cv_iconst C (pc' := 41) rfl (D 23 (40, .iconst 0, 1) rfl) (v := nI 0) (by decide) ?_
      refine cv_goto C (tgt := 66) (D 24 (41, .goto 25, 3) rfl) (by decide) ?_
      refine cv_iast C (pc' := 67) rfl (k0 := 13) (j := 5 * m) (by decide) rfl rfl (by omega) (by decide) (D 36 (66, .iastore, 1) rfl) ?_
      refine cv_aload_n C (pc' := 68) rfl (D 37 (67, .aload_n 0, 1) rfl) rfl (j := 2) rfl ?_
      refine cv_get C (pc' := 71) rfl (k0 := 0) (i := 18) (ci := 7) (by decide) rfl rfl (by decide) (o := some 13) rfl iw_X7 wfX7_50 (D 38 (68, .getfield 50, 3) rfl) rfl ?_
      refine cv_iload_n C (pc' := 72) rfl (D 39 (71, .iload_n 2, 1) rfl) rfl (j := 1) rfl ?_
      refine cv_iald C (pc' := 73) rfl (k0 := 13) (j := 5 * m) (by decide) rfl rfl (by omega) (by decide) (D 40 (72, .iaload, 1) rfl) (v := nI 0) cv_u_s ?_
      refine cv_bipush C (pc' := 75) rfl (D 41 (73, .bipush (-9), 2) rfl) (v := -9) (by decide) ?_
      refine cv_icmp_ne C (pc' := 78) rfl (tgt := 80) (D 42 (75, .if_icmp .ne 5, 3) rfl) (by decide) (fun _ => ?_) (fun h => absurd h (by decide))
      have hkd : cv_kd (g p) = some 0 := (by unfold cv_kd; rw [if_pos b37])
      have k1 := cv_gn_s hgo ⟨by omega, by rw [cv_go_p1 hpm hm, hkd]; rfl⟩
      refine cv_aload_n C (pc' := 81) rfl (D 45 (80, .aload_n 0, 1) rfl) rfl (j := 2) rfl ?_
      refine cv_dup C (pc' := 82) rfl (D 46 (81, .dup, 1) rfl) rfl ?_
      refine cv_get C (pc' := 85) rfl (k0 := 0) (i := 14) (ci := 7) (by decide) rfl rfl (by decide) (o := none) rfl iw_X7 wfX7_74 (D 47 (82, .getfield 74, 3) rfl) (v := .int (nI (F + p))) (congrArg Value.int ((congrFun (cv_u_c (by omega)) _).trans hA)) ?_
      refine cv_iconst C (pc' := 86) rfl (D 48 (85, .iconst 1, 1) rfl) (v := nI 1) (by decide) ?_
      refine cv_iaddN C (pc' := 87) rfl (D 49 (86, .iadd, 1) rfl) ?_
      refine cv_top (w := nI (F + (p + 1))) rfl ?_
      refine cv_put C (pc' := 90) rfl (k0 := 0) (i := 14) (ci := 7) (by decide) rfl rfl (by decide) rfl iw_X7 tyX7 tyX7_ok nmX7 wfX7_74 rfl rfl rfl (D 50 (87, .putfield 74, 3) rfl) ?_
      refine cv_aload_n C (pc' := 91) rfl (D 51 (90, .aload_n 0, 1) rfl) rfl (j := 2) rfl ?_
      refine cv_get C (pc' := 94) rfl (k0 := 0) (i := 18) (ci := 7) (by decide) rfl rfl (by decide) (o := some 13) rfl iw_X7 wfX7_50 (D 52 (91, .getfield 50, 3) rfl) rfl ?_
      refine cv_iload_n C (pc' := 95) rfl (D 53 (94, .iload_n 2, 1) rfl) rfl (j := 1) rfl ?_
      refine cv_iconst C (pc' := 96) rfl (D 54 (95, .iconst 1, 1) rfl) (v := nI 1) (by decide) ?_
      refine cv_iaddN C (pc' := 97) rfl (D 55 (96, .iadd, 1) rfl) ?_
      refine cv_aload_n C (pc' := 98) rfl (D 56 (97, .aload_n 0, 1) rfl) rfl (j := 2) rfl ?_
      refine cv_iload_n C (pc' := 99) rfl (D 57 (98, .iload_n 1, 1) rfl) rfl (j := 3) rfl ?_
      refine cv_iconst C (pc' := 100) rfl (D 58 (99, .iconst 0, 1) rfl) (v := nI 0) (by decide) ?_
      refine cv_iconst C (pc' := 101) rfl (D 59 (100, .iconst 2, 1) rfl) (v := nI 2) (by decide) ?_
      refine cv_callV C (pc' := 104) rfl (k0 := 0) (ci := 7) (As := [.int (nI (F + n)), .int (nI 0), .int (nI 2)]) (rest := [.int (nI ((5 * m) + 1)), .ref 13]) (idx := 77) (np := 3) (kX7_digit g n F (p + 1) 0 2 (cv_u (cv_u μ 13 (5 * m) (nI 0)) 0 14 (nI (F + (p + 1)))) (cv_TQ_u (by decide) (cv_TQ_u (by decide) hT)) cv_u_s (by omega) (by decide) (by decide)) (by decide) rfl rfl rfl (by decide +kernel) rfl wmX7_77 wi_yX7_digit ws_yX7_digit wn_X7 wc_yX7_digit (by decide) (by decide) (D 60 (101, .invokevirtual 77, 3) rfl) (Nat.le_of_ble_eq_true rfl) rfl (fun w101 u101 h101 => ?_)
      rcases h101 with ⟨c101, e101, f101⟩ | ⟨c101, e101, f101⟩
      · skip
        rw [e101, f101]
        rw [cv_uu]
        show cv_At X _ _ (cv_u (cv_u μ 13 (5 * m) (nI 0)) 0 14 (nI (F + (p + 2)))) 104 _ [.int (nI (cv_dt g (p + 1))), .int (nI ((5 * m) + 1)), .ref 13]
        obtain ⟨q101, r101, s101⟩ := cv_dt_of (g := g) (p := p + 1) (lo := 0) (hi := 2) (by decide) (by decide) c101.2
        have k2 := cv_gn_s k1 ⟨c101.1, by rw [cv_go_p2 hpm hm]; exact c101.2⟩
        refine cv_iast C (pc' := 105) rfl (k0 := 13) (j := (5 * m) + 1) (by decide) rfl rfl (by omega) (by decide) (D 61 (104, .iastore, 1) rfl) ?_
        refine cv_aload_n C (pc' := 106) rfl (D 62 (105, .aload_n 0, 1) rfl) rfl (j := 2) rfl ?_
        refine cv_get C (pc' := 109) rfl (k0 := 0) (i := 18) (ci := 7) (by decide) rfl rfl (by decide) (o := some 13) rfl iw_X7 wfX7_50 (D 63 (106, .getfield 50, 3) rfl) rfl ?_
        refine cv_iload_n C (pc' := 110) rfl (D 64 (109, .iload_n 2, 1) rfl) rfl (j := 1) rfl ?_
        refine cv_iconst C (pc' := 111) rfl (D 65 (110, .iconst 1, 1) rfl) (v := nI 1) (by decide) ?_
        refine cv_iaddN C (pc' := 112) rfl (D 66 (111, .iadd, 1) rfl) ?_
        refine cv_iald C (pc' := 113) rfl (k0 := 13) (j := (5 * m) + 1) (by decide) rfl rfl (by omega) (by decide) (D 67 (112, .iaload, 1) rfl) (v := nI (cv_dt g (p + 1))) cv_u_s ?_
        refine cv_bipush C (pc' := 115) rfl (D 68 (113, .bipush (-9), 2) rfl) (v := -9) (by decide) ?_
        refine cv_icmp_eq C (pc' := 118) rfl (tgt := 149) (D 69 (115, .if_icmp .eq 34, 3) rfl) (by decide) (fun b115 => ?_) (fun b115 => ?_)
        · skip
          exact absurd b115 (cv_m9 (by omega))
        · skip
          refine cv_aload_n C (pc' := 119) rfl (D 70 (118, .aload_n 0, 1) rfl) rfl (j := 2) rfl ?_
          refine cv_get C (pc' := 122) rfl (k0 := 0) (i := 14) (ci := 7) (by decide) rfl rfl (by decide) (o := none) rfl iw_X7 wfX7_74 (D 71 (119, .getfield 74, 3) rfl) (v := .int (nI (F + (p + 2)))) (congrArg Value.int ((congrFun (cv_u_c (by omega)) _).trans cv_u_s)) ?_
          refine cv_iload_n C (pc' := 123) rfl (D 72 (122, .iload_n 1, 1) rfl) rfl (j := 3) rfl ?_
          refine cv_icmp_geN C (pc' := 126) rfl (by omega) (by omega) (tgt := 151) (D 73 (123, .if_icmp .ge 28, 3) rfl) (by decide) (fun b123 => ?_) (fun b123 => ?_)
          · skip
            refine cv_aload_n C (pc' := 152) rfl (D 90 (151, .aload_n 0, 1) rfl) rfl (j := 2) rfl ?_
            refine cv_get C (pc' := 155) rfl (k0 := 0) (i := 18) (ci := 7) (by decide) rfl rfl (by decide) (o := some 13) rfl iw_X7 wfX7_50 (D 91 (152, .getfield 50, 3) rfl) rfl ?_
            refine cv_iload_n C (pc' := 156) rfl (D 92 (155, .iload_n 2, 1) rfl) rfl (j := 1) rfl ?_
            refine cv_iconst C (pc' := 157) rfl (D 93 (156, .iconst 2, 1) rfl) (v := nI 2) (by decide) ?_
            refine cv_iaddN C (pc' := 158) rfl (D 94 (157, .iadd, 1) rfl) ?_
            refine cv_aload_n C (pc' := 159) rfl (D 95 (158, .aload_n 0, 1) rfl) rfl (j := 2) rfl ?_
            refine cv_iload_n C (pc' := 160) rfl (D 96 (159, .iload_n 1, 1) rfl) rfl (j := 3) rfl ?_
            refine cv_iconst C (pc' := 161) rfl (D 97 (160, .iconst 0, 1) rfl) (v := nI 0) (by decide) ?_
            refine cv_iconst C (pc' := 162) rfl (D 98 (161, .iconst 2, 1) rfl) (v := nI 2) (by decide) ?_
            refine cv_callV C (pc' := 165) rfl (k0 := 0) (ci := 7) (As := [.int (nI (F + n)), .int (nI 0), .int (nI 2)]) (rest := [.int (nI ((5 * m) + 2)), .ref 13]) (idx := 77) (np := 3) (kX7_digit g n F (p + 2) 0 2 (cv_u (cv_u (cv_u μ 13 (5 * m) (nI 0)) 0 14 (nI (F + (p + 2)))) 13 ((5 * m) + 1) (nI (cv_dt g (p + 1)))) (cv_TQ_u (by decide) (cv_TQ_u (by decide) (cv_TQ_u (by decide) hT))) ((congrFun (cv_u_c (by omega)) _).trans cv_u_s) (by omega) (by decide) (by decide)) (by decide) rfl rfl rfl (by decide +kernel) rfl wmX7_77 wi_yX7_digit ws_yX7_digit wn_X7 wc_yX7_digit (by decide) (by decide) (D 99 (162, .invokevirtual 77, 3) rfl) (Nat.le_of_ble_eq_true rfl) rfl (fun w162 u162 h162 => ?_)
            rcases h162 with ⟨c162, e162, f162⟩ | ⟨c162, e162, f162⟩
            · skip
              rw [e162, f162]
              exact absurd c162.1 (by omega)
            · skip
              rw [e162, f162]
              show cv_At X _ _ (cv_u (cv_u (cv_u μ 13 (5 * m) (nI 0)) 0 14 (nI (F + (p + 2)))) 13 ((5 * m) + 1) (nI (cv_dt g (p + 1)))) 165 _ [.int (-9), .int (nI ((5 * m) + 2)), .ref 13]
              refine cv_iast C (pc' := 166) rfl (k0 := 13) (j := (5 * m) + 2) (by decide) rfl rfl (by omega) (by decide) (D 100 (165, .iastore, 1) rfl) ?_
              refine cv_aload_n C (pc' := 167) rfl (D 101 (166, .aload_n 0, 1) rfl) rfl (j := 2) rfl ?_
              refine cv_get C (pc' := 170) rfl (k0 := 0) (i := 18) (ci := 7) (by decide) rfl rfl (by decide) (o := some 13) rfl iw_X7 wfX7_50 (D 102 (167, .getfield 50, 3) rfl) rfl ?_
              refine cv_iload_n C (pc' := 171) rfl (D 103 (170, .iload_n 2, 1) rfl) rfl (j := 1) rfl ?_
              refine cv_iconst C (pc' := 172) rfl (D 104 (171, .iconst 2, 1) rfl) (v := nI 2) (by decide) ?_
              refine cv_iaddN C (pc' := 173) rfl (D 105 (172, .iadd, 1) rfl) ?_
              refine cv_iald C (pc' := 174) rfl (k0 := 13) (j := (5 * m) + 2) (by decide) rfl rfl (by omega) (by decide) (D 106 (173, .iaload, 1) rfl) (v := -9) cv_u_s ?_
              refine cv_bipush C (pc' := 176) rfl (D 107 (174, .bipush (-9), 2) rfl) (v := -9) (by decide) ?_
              refine cv_icmp_ne C (pc' := 179) rfl (tgt := 181) (D 108 (176, .if_icmp .ne 5, 3) rfl) (by decide) (fun h => absurd h (by decide)) (fun _ => ?_)
              refine cv_iconst C (pc' := 180) rfl (D 109 (179, .iconst 0, 1) rfl) (v := nI 0) (by decide) ?_
              exact cv_iret C Rt (by decide) (D 110 (180, .ireturn, 1) rfl) (Or.inr ⟨rfl, p + 2, cv_FP_mk k2 (fun h => c162 ⟨h.1, by have := h.2; rw [cv_go_p3 hpm hm, Bool.and_eq_true] at this; exact this.1⟩) (by omega), ((congrFun (cv_u_c (by omega)) _).trans ((congrFun (cv_u_c (by omega)) _).trans cv_u_s)), (cv_fq_13 (cv_fq_13 (cv_fq_0 (cv_fq_13 (cv_fq_r m μ) (by omega)) (by decide)) (by omega)) (by omega))⟩)
          · skip
            refine cv_aload_n C (pc' := 127) rfl (D 74 (126, .aload_n 0, 1) rfl) rfl (j := 2) rfl ?_
            refine cv_get C (pc' := 130) rfl (k0 := 0) (i := 4) (ci := 7) (by decide) rfl rfl (by decide) (o := some 3) rfl iw_X7 wfX7_16 (D 75 (127, .getfield 16, 3) rfl) rfl ?_
            refine cv_aload_n C (pc' := 131) rfl (D 76 (130, .aload_n 0, 1) rfl) rfl (j := 2) rfl ?_
            refine cv_get C (pc' := 134) rfl (k0 := 0) (i := 14) (ci := 7) (by decide) rfl rfl (by decide) (o := none) rfl iw_X7 wfX7_74 (D 77 (131, .getfield 74, 3) rfl) (v := .int (nI (F + (p + 2)))) (congrArg Value.int ((congrFun (cv_u_c (by omega)) _).trans cv_u_s)) ?_
            refine cv_iald C (pc' := 135) rfl (k0 := 3) (j := F + (p + 2)) (by decide) rfl rfl (by omega) (by decide) (D 78 (134, .iaload, 1) rfl) (v := g (p + 2)) ((congrFun (cv_u_c (by omega)) _).trans ((congrFun (cv_u_c (by omega)) _).trans ((congrFun (cv_u_c (by omega)) _).trans (hT.2 _ (by omega))))) ?_
            refine cv_bipush C (pc' := 137) rfl (D 79 (135, .bipush 48, 2) rfl) (v := nI 48) (by decide) ?_
            refine cv_isub C (pc' := 138) rfl (D 80 (137, .isub, 1) rfl) ?_
            refine cv_aload_n C (pc' := 139) rfl (D 81 (138, .aload_n 0, 1) rfl) rfl (j := 2) rfl ?_
            refine cv_get C (pc' := 142) rfl (k0 := 0) (i := 18) (ci := 7) (by decide) rfl rfl (by decide) (o := some 13) rfl iw_X7 wfX7_50 (D 82 (139, .getfield 50, 3) rfl) rfl ?_
            refine cv_iload_n C (pc' := 143) rfl (D 83 (142, .iload_n 2, 1) rfl) rfl (j := 1) rfl ?_
            refine cv_iconst C (pc' := 144) rfl (D 84 (143, .iconst 1, 1) rfl) (v := nI 1) (by decide) ?_
            refine cv_iaddN C (pc' := 145) rfl (D 85 (144, .iadd, 1) rfl) ?_
            refine cv_iald C (pc' := 146) rfl (k0 := 13) (j := (5 * m) + 1) (by decide) rfl rfl (by omega) (by decide) (D 86 (145, .iaload, 1) rfl) (v := nI (cv_dt g (p + 1))) cv_u_s ?_
            refine cv_icmp_ne C (pc' := 149) rfl (tgt := 151) (D 87 (146, .if_icmp .ne 5, 3) rfl) (by decide) (fun b146 => ?_) (fun b146 => ?_)
            · skip
              refine cv_aload_n C (pc' := 152) rfl (D 90 (151, .aload_n 0, 1) rfl) rfl (j := 2) rfl ?_
              refine cv_get C (pc' := 155) rfl (k0 := 0) (i := 18) (ci := 7) (by decide) rfl rfl (by decide) (o := some 13) rfl iw_X7 wfX7_50 (D 91 (152, .getfield 50, 3) rfl) rfl ?_
              refine cv_iload_n C (pc' := 156) rfl (D 92 (155, .iload_n 2, 1) rfl) rfl (j := 1) rfl ?_
              refine cv_iconst C (pc' := 157) rfl (D 93 (156, .iconst 2, 1) rfl) (v := nI 2) (by decide) ?_
              refine cv_iaddN C (pc' := 158) rfl (D 94 (157, .iadd, 1) rfl) ?_
              refine cv_aload_n C (pc' := 159) rfl (D 95 (158, .aload_n 0, 1) rfl) rfl (j := 2) rfl ?_
              refine cv_iload_n C (pc' := 160) rfl (D 96 (159, .iload_n 1, 1) rfl) rfl (j := 3) rfl ?_
              refine cv_iconst C (pc' := 161) rfl (D 97 (160, .iconst 0, 1) rfl) (v := nI 0) (by decide) ?_
              refine cv_iconst C (pc' := 162) rfl (D 98 (161, .iconst 2, 1) rfl) (v := nI 2) (by decide) ?_
              refine cv_callV C (pc' := 165) rfl (k0 := 0) (ci := 7) (As := [.int (nI (F + n)), .int (nI 0), .int (nI 2)]) (rest := [.int (nI ((5 * m) + 2)), .ref 13]) (idx := 77) (np := 3) (kX7_digit g n F (p + 2) 0 2 (cv_u (cv_u (cv_u μ 13 (5 * m) (nI 0)) 0 14 (nI (F + (p + 2)))) 13 ((5 * m) + 1) (nI (cv_dt g (p + 1)))) (cv_TQ_u (by decide) (cv_TQ_u (by decide) (cv_TQ_u (by decide) hT))) ((congrFun (cv_u_c (by omega)) _).trans cv_u_s) (by omega) (by decide) (by decide)) (by decide) rfl rfl rfl (by decide +kernel) rfl wmX7_77 wi_yX7_digit ws_yX7_digit wn_X7 wc_yX7_digit (by decide) (by decide) (D 99 (162, .invokevirtual 77, 3) rfl) (Nat.le_of_ble_eq_true rfl) rfl (fun w162 u162 h162 => ?_)
              rcases h162 with ⟨c162, e162, f162⟩ | ⟨c162, e162, f162⟩
              · skip
                rw [e162, f162]
                show cv_At X _ _ (cv_u (cv_u (cv_u (cv_u μ 13 (5 * m) (nI 0)) 0 14 (nI (F + (p + 2)))) 13 ((5 * m) + 1) (nI (cv_dt g (p + 1)))) 0 14 (nI (F + (p + 3)))) 165 _ [.int (nI (cv_dt g (p + 2))), .int (nI ((5 * m) + 2)), .ref 13]
                obtain ⟨q162, r162, s162⟩ := cv_dt_of (g := g) (p := p + 2) (lo := 0) (hi := 2) (by decide) (by decide) c162.2
                have k3 := cv_gn_s k2 ⟨c162.1, by rw [cv_go_p3 hpm hm, c162.2, decide_eq_true (show ¬ g (p + 2) = g (p + 1) from fun h => b146 (by rw [h]; exact q101))]; rfl⟩
                refine cv_iast C (pc' := 166) rfl (k0 := 13) (j := (5 * m) + 2) (by decide) rfl rfl (by omega) (by decide) (D 100 (165, .iastore, 1) rfl) ?_
                refine cv_aload_n C (pc' := 167) rfl (D 101 (166, .aload_n 0, 1) rfl) rfl (j := 2) rfl ?_
                refine cv_get C (pc' := 170) rfl (k0 := 0) (i := 18) (ci := 7) (by decide) rfl rfl (by decide) (o := some 13) rfl iw_X7 wfX7_50 (D 102 (167, .getfield 50, 3) rfl) rfl ?_
                refine cv_iload_n C (pc' := 171) rfl (D 103 (170, .iload_n 2, 1) rfl) rfl (j := 1) rfl ?_
                refine cv_iconst C (pc' := 172) rfl (D 104 (171, .iconst 2, 1) rfl) (v := nI 2) (by decide) ?_
                refine cv_iaddN C (pc' := 173) rfl (D 105 (172, .iadd, 1) rfl) ?_
                refine cv_iald C (pc' := 174) rfl (k0 := 13) (j := (5 * m) + 2) (by decide) rfl rfl (by omega) (by decide) (D 106 (173, .iaload, 1) rfl) (v := nI (cv_dt g (p + 2))) cv_u_s ?_
                refine cv_bipush C (pc' := 176) rfl (D 107 (174, .bipush (-9), 2) rfl) (v := -9) (by decide) ?_
                refine cv_icmp_ne C (pc' := 179) rfl (tgt := 181) (D 108 (176, .if_icmp .ne 5, 3) rfl) (by decide) (fun b176 => ?_) (fun b176 => ?_)
                · skip
                  refine cv_aload_n C (pc' := 182) rfl (D 111 (181, .aload_n 0, 1) rfl) rfl (j := 2) rfl ?_
                  refine cv_get C (pc' := 185) rfl (k0 := 0) (i := 18) (ci := 7) (by decide) rfl rfl (by decide) (o := some 13) rfl iw_X7 wfX7_50 (D 112 (182, .getfield 50, 3) rfl) rfl ?_
                  refine cv_iload_n C (pc' := 186) rfl (D 113 (185, .iload_n 2, 1) rfl) rfl (j := 1) rfl ?_
                  refine cv_iconst C (pc' := 187) rfl (D 114 (186, .iconst 3, 1) rfl) (v := nI 3) (by decide) ?_
                  refine cv_iaddN C (pc' := 188) rfl (D 115 (187, .iadd, 1) rfl) ?_
                  refine cv_aload_n C (pc' := 189) rfl (D 116 (188, .aload_n 0, 1) rfl) rfl (j := 2) rfl ?_
                  refine cv_iload_n C (pc' := 190) rfl (D 117 (189, .iload_n 1, 1) rfl) rfl (j := 3) rfl ?_
                  refine cv_iconst C (pc' := 191) rfl (D 118 (190, .iconst 1, 1) rfl) (v := nI 1) (by decide) ?_
                  refine cv_iconst C (pc' := 192) rfl (D 119 (191, .iconst 3, 1) rfl) (v := nI 3) (by decide) ?_
                  refine cv_callV C (pc' := 195) rfl (k0 := 0) (ci := 7) (As := [.int (nI (F + n)), .int (nI 1), .int (nI 3)]) (rest := [.int (nI ((5 * m) + 3)), .ref 13]) (idx := 77) (np := 3) (kX7_digit g n F (p + 3) 1 3 (cv_u (cv_u (cv_u (cv_u (cv_u μ 13 (5 * m) (nI 0)) 0 14 (nI (F + (p + 2)))) 13 ((5 * m) + 1) (nI (cv_dt g (p + 1)))) 0 14 (nI (F + (p + 3)))) 13 ((5 * m) + 2) (nI (cv_dt g (p + 2)))) (cv_TQ_u (by decide) (cv_TQ_u (by decide) (cv_TQ_u (by decide) (cv_TQ_u (by decide) (cv_TQ_u (by decide) hT))))) ((congrFun (cv_u_c (by omega)) _).trans cv_u_s) (by omega) (by decide) (by decide)) (by decide) rfl rfl rfl (by decide +kernel) rfl wmX7_77 wi_yX7_digit ws_yX7_digit wn_X7 wc_yX7_digit (by decide) (by decide) (D 120 (192, .invokevirtual 77, 3) rfl) (Nat.le_of_ble_eq_true rfl) rfl (fun w192 u192 h192 => ?_)
                  rcases h192 with ⟨c192, e192, f192⟩ | ⟨c192, e192, f192⟩
                  · skip
                    rw [e192, f192]
                    show cv_At X _ _ (cv_u (cv_u (cv_u (cv_u (cv_u (cv_u μ 13 (5 * m) (nI 0)) 0 14 (nI (F + (p + 2)))) 13 ((5 * m) + 1) (nI (cv_dt g (p + 1)))) 0 14 (nI (F + (p + 3)))) 13 ((5 * m) + 2) (nI (cv_dt g (p + 2)))) 0 14 (nI (F + (p + 4)))) 195 _ [.int (nI (cv_dt g (p + 3))), .int (nI ((5 * m) + 3)), .ref 13]
                    obtain ⟨q192, r192, s192⟩ := cv_dt_of (g := g) (p := p + 3) (lo := 1) (hi := 3) (by decide) (by decide) c192.2
                    have k4 := cv_gn_s k3 ⟨c192.1, by rw [cv_go_p4 hpm hm]; exact c192.2⟩
                    refine cv_iast C (pc' := 196) rfl (k0 := 13) (j := (5 * m) + 3) (by decide) rfl rfl (by omega) (by decide) (D 121 (195, .iastore, 1) rfl) ?_
                    refine cv_aload_n C (pc' := 197) rfl (D 122 (196, .aload_n 0, 1) rfl) rfl (j := 2) rfl ?_
                    refine cv_get C (pc' := 200) rfl (k0 := 0) (i := 18) (ci := 7) (by decide) rfl rfl (by decide) (o := some 13) rfl iw_X7 wfX7_50 (D 123 (197, .getfield 50, 3) rfl) rfl ?_
                    refine cv_iload_n C (pc' := 201) rfl (D 124 (200, .iload_n 2, 1) rfl) rfl (j := 1) rfl ?_
                    refine cv_iconst C (pc' := 202) rfl (D 125 (201, .iconst 3, 1) rfl) (v := nI 3) (by decide) ?_
                    refine cv_iaddN C (pc' := 203) rfl (D 126 (202, .iadd, 1) rfl) ?_
                    refine cv_iald C (pc' := 204) rfl (k0 := 13) (j := (5 * m) + 3) (by decide) rfl rfl (by omega) (by decide) (D 127 (203, .iaload, 1) rfl) (v := nI (cv_dt g (p + 3))) cv_u_s ?_
                    refine cv_bipush C (pc' := 206) rfl (D 128 (204, .bipush (-9), 2) rfl) (v := -9) (by decide) ?_
                    refine cv_icmp_ne C (pc' := 209) rfl (tgt := 211) (D 129 (206, .if_icmp .ne 5, 3) rfl) (by decide) (fun b206 => ?_) (fun b206 => ?_)
                    · skip
                      refine cv_aload_n C (pc' := 212) rfl (D 132 (211, .aload_n 0, 1) rfl) rfl (j := 2) rfl ?_
                      refine cv_get C (pc' := 215) rfl (k0 := 0) (i := 18) (ci := 7) (by decide) rfl rfl (by decide) (o := some 13) rfl iw_X7 wfX7_50 (D 133 (212, .getfield 50, 3) rfl) rfl ?_
                      refine cv_iload_n C (pc' := 216) rfl (D 134 (215, .iload_n 2, 1) rfl) rfl (j := 1) rfl ?_
                      refine cv_iconst C (pc' := 217) rfl (D 135 (216, .iconst 4, 1) rfl) (v := nI 4) (by decide) ?_
                      refine cv_iaddN C (pc' := 218) rfl (D 136 (217, .iadd, 1) rfl) ?_
                      refine cv_aload_n C (pc' := 219) rfl (D 137 (218, .aload_n 0, 1) rfl) rfl (j := 2) rfl ?_
                      refine cv_iload_n C (pc' := 220) rfl (D 138 (219, .iload_n 1, 1) rfl) rfl (j := 3) rfl ?_
                      refine cv_iconst C (pc' := 221) rfl (D 139 (220, .iconst 0, 1) rfl) (v := nI 0) (by decide) ?_
                      refine cv_bipush C (pc' := 223) rfl (D 140 (221, .bipush 9, 2) rfl) (v := nI 9) (by decide) ?_
                      refine cv_callV C (pc' := 226) rfl (k0 := 0) (ci := 7) (As := [.int (nI (F + n)), .int (nI 0), .int (nI 9)]) (rest := [.int (nI ((5 * m) + 4)), .ref 13]) (idx := 77) (np := 3) (kX7_digit g n F (p + 4) 0 9 (cv_u (cv_u (cv_u (cv_u (cv_u (cv_u (cv_u μ 13 (5 * m) (nI 0)) 0 14 (nI (F + (p + 2)))) 13 ((5 * m) + 1) (nI (cv_dt g (p + 1)))) 0 14 (nI (F + (p + 3)))) 13 ((5 * m) + 2) (nI (cv_dt g (p + 2)))) 0 14 (nI (F + (p + 4)))) 13 ((5 * m) + 3) (nI (cv_dt g (p + 3)))) (cv_TQ_u (by decide) (cv_TQ_u (by decide) (cv_TQ_u (by decide) (cv_TQ_u (by decide) (cv_TQ_u (by decide) (cv_TQ_u (by decide) (cv_TQ_u (by decide) hT))))))) ((congrFun (cv_u_c (by omega)) _).trans cv_u_s) (by omega) (by decide) (by decide)) (by decide) rfl rfl rfl (by decide +kernel) rfl wmX7_77 wi_yX7_digit ws_yX7_digit wn_X7 wc_yX7_digit (by decide) (by decide) (D 141 (223, .invokevirtual 77, 3) rfl) (Nat.le_of_ble_eq_true rfl) rfl (fun w223 u223 h223 => ?_)
                      rcases h223 with ⟨c223, e223, f223⟩ | ⟨c223, e223, f223⟩
                      · skip
                        rw [e223, f223]
                        show cv_At X _ _ (cv_u (cv_u (cv_u (cv_u (cv_u (cv_u (cv_u (cv_u μ 13 (5 * m) (nI 0)) 0 14 (nI (F + (p + 2)))) 13 ((5 * m) + 1) (nI (cv_dt g (p + 1)))) 0 14 (nI (F + (p + 3)))) 13 ((5 * m) + 2) (nI (cv_dt g (p + 2)))) 0 14 (nI (F + (p + 4)))) 13 ((5 * m) + 3) (nI (cv_dt g (p + 3)))) 0 14 (nI (F + (p + 5)))) 226 _ [.int (nI (cv_dt g (p + 4))), .int (nI ((5 * m) + 4)), .ref 13]
                        obtain ⟨q223, r223, s223⟩ := cv_dt_of (g := g) (p := p + 4) (lo := 0) (hi := 9) (by decide) (by decide) c223.2
                        have k5 := cv_gn_s k4 ⟨c223.1, by rw [cv_go_p5 hpm hm]; exact c223.2⟩
                        refine cv_iast C (pc' := 227) rfl (k0 := 13) (j := (5 * m) + 4) (by decide) rfl rfl (by omega) (by decide) (D 142 (226, .iastore, 1) rfl) ?_
                        refine cv_aload_n C (pc' := 228) rfl (D 143 (227, .aload_n 0, 1) rfl) rfl (j := 2) rfl ?_
                        refine cv_dup C (pc' := 229) rfl (D 144 (228, .dup, 1) rfl) rfl ?_
                        refine cv_get C (pc' := 232) rfl (k0 := 0) (i := 15) (ci := 7) (by decide) rfl rfl (by decide) (o := none) rfl iw_X7 wfX7_102 (D 145 (229, .getfield 102, 3) rfl) (v := .int (nI m)) (congrArg Value.int ((congrFun (cv_u_c (by omega)) _).trans ((cv_u_i (by omega)).trans ((congrFun (cv_u_c (by omega)) _).trans ((cv_u_i (by omega)).trans ((congrFun (cv_u_c (by omega)) _).trans ((cv_u_i (by omega)).trans ((congrFun (cv_u_c (by omega)) _).trans ((cv_u_i (by omega)).trans ((congrFun (cv_u_c (by omega)) _).trans hM)))))))))) ?_
                        refine cv_iconst C (pc' := 233) rfl (D 146 (232, .iconst 1, 1) rfl) (v := nI 1) (by decide) ?_
                        refine cv_iaddN C (pc' := 234) rfl (D 147 (233, .iadd, 1) rfl) ?_
                        refine cv_put C (pc' := 237) rfl (k0 := 0) (i := 15) (ci := 7) (by decide) rfl rfl (by decide) rfl iw_X7 tyX7 tyX7_ok nmX7 wfX7_102 rfl rfl rfl (D 148 (234, .putfield 102, 3) rfl) ?_
                        refine cv_aload_n C (pc' := 238) rfl (D 149 (237, .aload_n 0, 1) rfl) rfl (j := 2) rfl ?_
                        refine cv_get C (pc' := 241) rfl (k0 := 0) (i := 18) (ci := 7) (by decide) rfl rfl (by decide) (o := some 13) rfl iw_X7 wfX7_50 (D 150 (238, .getfield 50, 3) rfl) rfl ?_
                        refine cv_iload_n C (pc' := 242) rfl (D 151 (241, .iload_n 2, 1) rfl) rfl (j := 1) rfl ?_
                        refine cv_iconst C (pc' := 243) rfl (D 152 (242, .iconst 4, 1) rfl) (v := nI 4) (by decide) ?_
                        refine cv_iaddN C (pc' := 244) rfl (D 153 (243, .iadd, 1) rfl) ?_
                        refine cv_iald C (pc' := 245) rfl (k0 := 13) (j := (5 * m) + 4) (by decide) rfl rfl (by omega) (by decide) (D 154 (244, .iaload, 1) rfl) (v := nI (cv_dt g (p + 4))) ((congrFun (cv_u_c (by omega)) _).trans cv_u_s) ?_
                        refine cv_bipush C (pc' := 247) rfl (D 155 (245, .bipush (-9), 2) rfl) (v := -9) (by decide) ?_
                        refine cv_icmp_eq C (pc' := 250) rfl (tgt := 254) (D 156 (247, .if_icmp .eq 7, 3) rfl) (by decide) (fun b247 => ?_) (fun b247 => ?_)
                        · skip
                          exact absurd b247 (cv_m9 (by omega))
                        · skip
                          refine cv_iconst C (pc' := 251) rfl (D 157 (250, .iconst 1, 1) rfl) (v := nI 1) (by decide) ?_
                          refine cv_goto C (tgt := 255) (D 158 (251, .goto 4, 3) rfl) (by decide) ?_
                          exact cv_iret C Rt (by decide) (D 160 (255, .ireturn, 1) rfl) (Or.inl ⟨rfl, k5, ((cv_u_i (by omega)).trans ((congrFun (cv_u_c (by omega)) _).trans cv_u_s)), cv_u_s, (fun i hi => by match i, hi with | 0, _ => exact (((congrFun (cv_u_c (by omega)) _).trans ((cv_u_i (by omega)).trans ((congrFun (cv_u_c (by omega)) _).trans ((cv_u_i (by omega)).trans ((congrFun (cv_u_c (by omega)) _).trans ((cv_u_i (by omega)).trans ((congrFun (cv_u_c (by omega)) _).trans ((cv_u_i (by omega)).trans ((congrFun (cv_u_c (by omega)) _).trans cv_u_s)))))))))).trans (congrArg nI (by rw [hpm] at hkd; show _ = (cv_kd (g (21 + 6 * m + 1))).getD 0; rw [hkd]; rfl)) | 1, _ => exact (((congrFun (cv_u_c (by omega)) _).trans ((cv_u_i (by omega)).trans ((congrFun (cv_u_c (by omega)) _).trans ((cv_u_i (by omega)).trans ((congrFun (cv_u_c (by omega)) _).trans ((cv_u_i (by omega)).trans ((congrFun (cv_u_c (by omega)) _).trans cv_u_s)))))))).trans (congrArg nI (by rw [hpm]; rfl)) | 2, _ => exact (((congrFun (cv_u_c (by omega)) _).trans ((cv_u_i (by omega)).trans ((congrFun (cv_u_c (by omega)) _).trans ((cv_u_i (by omega)).trans ((congrFun (cv_u_c (by omega)) _).trans cv_u_s)))))).trans (congrArg nI (by rw [hpm]; rfl)) | 3, _ => exact (((congrFun (cv_u_c (by omega)) _).trans ((cv_u_i (by omega)).trans ((congrFun (cv_u_c (by omega)) _).trans cv_u_s)))).trans (congrArg nI (by rw [hpm]; rfl)) | 4, _ => exact (((congrFun (cv_u_c (by omega)) _).trans cv_u_s)).trans (congrArg nI (by rw [hpm]; rfl))), (cv_fq_0 (cv_fq_13 (cv_fq_0 (cv_fq_13 (cv_fq_0 (cv_fq_13 (cv_fq_0 (cv_fq_13 (cv_fq_0 (cv_fq_13 (cv_fq_r m μ) (by omega)) (by decide)) (by omega)) (by decide)) (by omega)) (by decide)) (by omega)) (by decide)) (by omega)) (by decide))⟩)
                      · skip
                        rw [e223, f223]
                        show cv_At X _ _ (cv_u (cv_u (cv_u (cv_u (cv_u (cv_u (cv_u μ 13 (5 * m) (nI 0)) 0 14 (nI (F + (p + 2)))) 13 ((5 * m) + 1) (nI (cv_dt g (p + 1)))) 0 14 (nI (F + (p + 3)))) 13 ((5 * m) + 2) (nI (cv_dt g (p + 2)))) 0 14 (nI (F + (p + 4)))) 13 ((5 * m) + 3) (nI (cv_dt g (p + 3)))) 226 _ [.int (-9), .int (nI ((5 * m) + 4)), .ref 13]
                        refine cv_iast C (pc' := 227) rfl (k0 := 13) (j := (5 * m) + 4) (by decide) rfl rfl (by omega) (by decide) (D 142 (226, .iastore, 1) rfl) ?_
                        refine cv_aload_n C (pc' := 228) rfl (D 143 (227, .aload_n 0, 1) rfl) rfl (j := 2) rfl ?_
                        refine cv_dup C (pc' := 229) rfl (D 144 (228, .dup, 1) rfl) rfl ?_
                        refine cv_get C (pc' := 232) rfl (k0 := 0) (i := 15) (ci := 7) (by decide) rfl rfl (by decide) (o := none) rfl iw_X7 wfX7_102 (D 145 (229, .getfield 102, 3) rfl) (v := .int (nI m)) (congrArg Value.int ((congrFun (cv_u_c (by omega)) _).trans ((congrFun (cv_u_c (by omega)) _).trans ((cv_u_i (by omega)).trans ((congrFun (cv_u_c (by omega)) _).trans ((cv_u_i (by omega)).trans ((congrFun (cv_u_c (by omega)) _).trans ((cv_u_i (by omega)).trans ((congrFun (cv_u_c (by omega)) _).trans hM))))))))) ?_
                        refine cv_iconst C (pc' := 233) rfl (D 146 (232, .iconst 1, 1) rfl) (v := nI 1) (by decide) ?_
                        refine cv_iaddN C (pc' := 234) rfl (D 147 (233, .iadd, 1) rfl) ?_
                        refine cv_put C (pc' := 237) rfl (k0 := 0) (i := 15) (ci := 7) (by decide) rfl rfl (by decide) rfl iw_X7 tyX7 tyX7_ok nmX7 wfX7_102 rfl rfl rfl (D 148 (234, .putfield 102, 3) rfl) ?_
                        refine cv_aload_n C (pc' := 238) rfl (D 149 (237, .aload_n 0, 1) rfl) rfl (j := 2) rfl ?_
                        refine cv_get C (pc' := 241) rfl (k0 := 0) (i := 18) (ci := 7) (by decide) rfl rfl (by decide) (o := some 13) rfl iw_X7 wfX7_50 (D 150 (238, .getfield 50, 3) rfl) rfl ?_
                        refine cv_iload_n C (pc' := 242) rfl (D 151 (241, .iload_n 2, 1) rfl) rfl (j := 1) rfl ?_
                        refine cv_iconst C (pc' := 243) rfl (D 152 (242, .iconst 4, 1) rfl) (v := nI 4) (by decide) ?_
                        refine cv_iaddN C (pc' := 244) rfl (D 153 (243, .iadd, 1) rfl) ?_
                        refine cv_iald C (pc' := 245) rfl (k0 := 13) (j := (5 * m) + 4) (by decide) rfl rfl (by omega) (by decide) (D 154 (244, .iaload, 1) rfl) (v := -9) ((congrFun (cv_u_c (by omega)) _).trans cv_u_s) ?_
                        refine cv_bipush C (pc' := 247) rfl (D 155 (245, .bipush (-9), 2) rfl) (v := -9) (by decide) ?_
                        refine cv_icmp_eq C (pc' := 250) rfl (tgt := 254) (D 156 (247, .if_icmp .eq 7, 3) rfl) (by decide) (fun _ => ?_) (fun h => absurd h (by decide))
                        refine cv_iconst C (pc' := 255) rfl (D 159 (254, .iconst 0, 1) rfl) (v := nI 0) (by decide) ?_
                        exact cv_iret C Rt (by decide) (D 160 (255, .ireturn, 1) rfl) (Or.inr ⟨rfl, p + 4, cv_FP_mk k4 (fun h => c223 ⟨h.1, by rw [← cv_go_p5 hpm hm]; exact h.2⟩) (by omega), ((cv_u_i (by omega)).trans ((congrFun (cv_u_c (by omega)) _).trans ((congrFun (cv_u_c (by omega)) _).trans cv_u_s))), (cv_fq_0 (cv_fq_13 (cv_fq_13 (cv_fq_0 (cv_fq_13 (cv_fq_0 (cv_fq_13 (cv_fq_0 (cv_fq_13 (cv_fq_r m μ) (by omega)) (by decide)) (by omega)) (by decide)) (by omega)) (by decide)) (by omega)) (by omega)) (by decide))⟩)
                    · skip
                      exact absurd b206 (cv_m9 (by omega))
                  · skip
                    rw [e192, f192]
                    show cv_At X _ _ (cv_u (cv_u (cv_u (cv_u (cv_u μ 13 (5 * m) (nI 0)) 0 14 (nI (F + (p + 2)))) 13 ((5 * m) + 1) (nI (cv_dt g (p + 1)))) 0 14 (nI (F + (p + 3)))) 13 ((5 * m) + 2) (nI (cv_dt g (p + 2)))) 195 _ [.int (-9), .int (nI ((5 * m) + 3)), .ref 13]
                    refine cv_iast C (pc' := 196) rfl (k0 := 13) (j := (5 * m) + 3) (by decide) rfl rfl (by omega) (by decide) (D 121 (195, .iastore, 1) rfl) ?_
                    refine cv_aload_n C (pc' := 197) rfl (D 122 (196, .aload_n 0, 1) rfl) rfl (j := 2) rfl ?_
                    refine cv_get C (pc' := 200) rfl (k0 := 0) (i := 18) (ci := 7) (by decide) rfl rfl (by decide) (o := some 13) rfl iw_X7 wfX7_50 (D 123 (197, .getfield 50, 3) rfl) rfl ?_
                    refine cv_iload_n C (pc' := 201) rfl (D 124 (200, .iload_n 2, 1) rfl) rfl (j := 1) rfl ?_
                    refine cv_iconst C (pc' := 202) rfl (D 125 (201, .iconst 3, 1) rfl) (v := nI 3) (by decide) ?_
                    refine cv_iaddN C (pc' := 203) rfl (D 126 (202, .iadd, 1) rfl) ?_
                    refine cv_iald C (pc' := 204) rfl (k0 := 13) (j := (5 * m) + 3) (by decide) rfl rfl (by omega) (by decide) (D 127 (203, .iaload, 1) rfl) (v := -9) cv_u_s ?_
                    refine cv_bipush C (pc' := 206) rfl (D 128 (204, .bipush (-9), 2) rfl) (v := -9) (by decide) ?_
                    refine cv_icmp_ne C (pc' := 209) rfl (tgt := 211) (D 129 (206, .if_icmp .ne 5, 3) rfl) (by decide) (fun h => absurd h (by decide)) (fun _ => ?_)
                    refine cv_iconst C (pc' := 210) rfl (D 130 (209, .iconst 0, 1) rfl) (v := nI 0) (by decide) ?_
                    exact cv_iret C Rt (by decide) (D 131 (210, .ireturn, 1) rfl) (Or.inr ⟨rfl, p + 3, cv_FP_mk k3 (fun h => c192 ⟨h.1, by rw [← cv_go_p4 hpm hm]; exact h.2⟩) (by omega), ((congrFun (cv_u_c (by omega)) _).trans ((congrFun (cv_u_c (by omega)) _).trans cv_u_s)), (cv_fq_13 (cv_fq_13 (cv_fq_0 (cv_fq_13 (cv_fq_0 (cv_fq_13 (cv_fq_r m μ) (by omega)) (by decide)) (by omega)) (by decide)) (by omega)) (by omega))⟩)
                · skip
                  exact absurd b176 (cv_m9 (by omega))
              · skip
                rw [e162, f162]
                show cv_At X _ _ (cv_u (cv_u (cv_u μ 13 (5 * m) (nI 0)) 0 14 (nI (F + (p + 2)))) 13 ((5 * m) + 1) (nI (cv_dt g (p + 1)))) 165 _ [.int (-9), .int (nI ((5 * m) + 2)), .ref 13]
                refine cv_iast C (pc' := 166) rfl (k0 := 13) (j := (5 * m) + 2) (by decide) rfl rfl (by omega) (by decide) (D 100 (165, .iastore, 1) rfl) ?_
                refine cv_aload_n C (pc' := 167) rfl (D 101 (166, .aload_n 0, 1) rfl) rfl (j := 2) rfl ?_
                refine cv_get C (pc' := 170) rfl (k0 := 0) (i := 18) (ci := 7) (by decide) rfl rfl (by decide) (o := some 13) rfl iw_X7 wfX7_50 (D 102 (167, .getfield 50, 3) rfl) rfl ?_
                refine cv_iload_n C (pc' := 171) rfl (D 103 (170, .iload_n 2, 1) rfl) rfl (j := 1) rfl ?_
                refine cv_iconst C (pc' := 172) rfl (D 104 (171, .iconst 2, 1) rfl) (v := nI 2) (by decide) ?_
                refine cv_iaddN C (pc' := 173) rfl (D 105 (172, .iadd, 1) rfl) ?_
                refine cv_iald C (pc' := 174) rfl (k0 := 13) (j := (5 * m) + 2) (by decide) rfl rfl (by omega) (by decide) (D 106 (173, .iaload, 1) rfl) (v := -9) cv_u_s ?_
                refine cv_bipush C (pc' := 176) rfl (D 107 (174, .bipush (-9), 2) rfl) (v := -9) (by decide) ?_
                refine cv_icmp_ne C (pc' := 179) rfl (tgt := 181) (D 108 (176, .if_icmp .ne 5, 3) rfl) (by decide) (fun h => absurd h (by decide)) (fun _ => ?_)
                refine cv_iconst C (pc' := 180) rfl (D 109 (179, .iconst 0, 1) rfl) (v := nI 0) (by decide) ?_
                exact cv_iret C Rt (by decide) (D 110 (180, .ireturn, 1) rfl) (Or.inr ⟨rfl, p + 2, cv_FP_mk k2 (fun h => c162 ⟨h.1, by have := h.2; rw [cv_go_p3 hpm hm, Bool.and_eq_true] at this; exact this.1⟩) (by omega), ((congrFun (cv_u_c (by omega)) _).trans ((congrFun (cv_u_c (by omega)) _).trans cv_u_s)), (cv_fq_13 (cv_fq_13 (cv_fq_0 (cv_fq_13 (cv_fq_r m μ) (by omega)) (by decide)) (by omega)) (by omega))⟩)
            · skip
              refine cv_iconst C (pc' := 150) rfl (D 88 (149, .iconst 0, 1) rfl) (v := nI 0) (by decide) ?_
              exact cv_iret C Rt (by decide) (D 89 (150, .ireturn, 1) rfl) (Or.inr ⟨rfl, p + 2, cv_FP_mk k2 (fun h => by have := h.2; rw [cv_go_p3 hpm hm, decide_eq_false (fun h9 => h9 (cv_sub_in (b146.trans q101.symm))), Bool.and_false] at this; cases this) (by omega), ((congrFun (cv_u_c (by omega)) _).trans cv_u_s), (cv_fq_13 (cv_fq_0 (cv_fq_13 (cv_fq_r m μ) (by omega)) (by decide)) (by omega))⟩)
      · skip
        rw [e101, f101]
        show cv_At X _ _ (cv_u (cv_u μ 13 (5 * m) (nI 0)) 0 14 (nI (F + (p + 1)))) 104 _ [.int (-9), .int (nI ((5 * m) + 1)), .ref 13]
        refine cv_iast C (pc' := 105) rfl (k0 := 13) (j := (5 * m) + 1) (by decide) rfl rfl (by omega) (by decide) (D 61 (104, .iastore, 1) rfl) ?_
        refine cv_aload_n C (pc' := 106) rfl (D 62 (105, .aload_n 0, 1) rfl) rfl (j := 2) rfl ?_
        refine cv_get C (pc' := 109) rfl (k0 := 0) (i := 18) (ci := 7) (by decide) rfl rfl (by decide) (o := some 13) rfl iw_X7 wfX7_50 (D 63 (106, .getfield 50, 3) rfl) rfl ?_
        refine cv_iload_n C (pc' := 110) rfl (D 64 (109, .iload_n 2, 1) rfl) rfl (j := 1) rfl ?_
        refine cv_iconst C (pc' := 111) rfl (D 65 (110, .iconst 1, 1) rfl) (v := nI 1) (by decide) ?_
        refine cv_iaddN C (pc' := 112) rfl (D 66 (111, .iadd, 1) rfl) ?_
        refine cv_iald C (pc' := 113) rfl (k0 := 13) (j := (5 * m) + 1) (by decide) rfl rfl (by omega) (by decide) (D 67 (112, .iaload, 1) rfl) (v := -9) cv_u_s ?_
        refine cv_bipush C (pc' := 115) rfl (D 68 (113, .bipush (-9), 2) rfl) (v := -9) (by decide) ?_
        refine cv_icmp_eq C (pc' := 118) rfl (tgt := 149) (D 69 (115, .if_icmp .eq 34, 3) rfl) (by decide) (fun _ => ?_) (fun h => absurd h (by decide))
        refine cv_iconst C (pc' := 150) rfl (D 88 (149, .iconst 0, 1) rfl) (v := nI 0) (by decide) ?_
        exact cv_iret C Rt (by decide) (D 89 (150, .ireturn, 1) rfl) (Or.inr ⟨rfl, p + 1, cv_FP_mk k1 (fun h => c101 ⟨h.1, by rw [← cv_go_p2 hpm hm]; exact h.2⟩) (by omega), ((congrFun (cv_u_c (by omega)) _).trans cv_u_s), (cv_fq_13 (cv_fq_0 (cv_fq_13 (cv_fq_r m μ) (by omega)) (by decide)) (by omega))⟩)

