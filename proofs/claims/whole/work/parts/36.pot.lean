/-! ===== the forward table and the values of places: what is left to come, together with what is done, stays the same ===== -/
theorem cv_mn_c (a b : Option Nat) : cv_mn a b = cv_mn b a := by
  cases a <;> cases b <;> simp [cv_mn, Nat.min_comm]
theorem cv_mn_as (a b c : Option Nat) : cv_mn (cv_mn a b) c = cv_mn a (cv_mn b c) := by
  cases a <;> cases b <;> cases c <;> simp [cv_mn, Nat.min_assoc]
theorem cv_mn_i (a : Option Nat) : cv_mn a a = a := by cases a <;> simp [cv_mn]
theorem cv_mn_0 (a : Option Nat) : cv_mn none a = a := rfl
theorem cv_mn_1 (a : Option Nat) : cv_mn a none = a := by cases a <;> rfl
theorem cv_mn_l (a b c : Option Nat) : cv_mn a (cv_mn b c) = cv_mn b (cv_mn a c) := by rw [← cv_mn_as, cv_mn_c a b, cv_mn_as]
theorem cv_mn_ab (a1 a2 a3 w : Option Nat) : cv_mn (cv_mn (cv_mn a1 w) a2) a3 = cv_mn (cv_mn (cv_mn (cv_mn a1 w) a2) a3) w := by
  cases a1 <;> cases a2 <;> cases a3 <;> cases w <;> simp [cv_mn] <;> omega
abbrev cv_VT : Type := Nat → Nat → Nat → Nat → Option Nat
def cv_wj (W : cv_VT) (j : Nat) (o : Option Nat) : Option Nat := match o with
  | none => none
  | some h => W (j / 6) (j / 2 % 3) (j % 2) h
def cv_pt (W : cv_VT) (T : Nat → Option Nat) (j : Nat) : Nat → Option Nat
  | 0 => none
  | n + 1 => cv_mn (cv_pt W T j n) (if j ≤ n then cv_wj W n (T n) else none)
theorem cv_pt_ge {W : cv_VT} {T : Nat → Option Nat} {j : Nat} : ∀ n, n ≤ j → cv_pt W T j n = none
  | 0, _ => rfl
  | n + 1, h => by simp only [cv_pt]; rw [cv_pt_ge n (by omega), if_neg (by omega)]; rfl
theorem cv_pt_peel {W : cv_VT} {T : Nat → Option Nat} {j : Nat} : ∀ n, j < n → cv_pt W T j n = cv_mn (cv_pt W T (j + 1) n) (cv_wj W j (T j))
  | 0, h => by omega
  | n + 1, h => by
    simp only [cv_pt]
    by_cases e : j = n
    · subst e
      rw [if_pos (Nat.le_refl _), if_neg (by omega), cv_pt_ge j (Nat.le_refl _), cv_pt_ge j (by omega)]
      rfl
    · rw [cv_pt_peel n (by omega), if_pos (by omega), if_pos (by omega), cv_mn_as, cv_mn_as, cv_mn_c (cv_wj W j (T j))]
theorem cv_wj_mn {W : cv_VT} (hm : ∀ d v r h h2, W d v r (min h h2) = cv_mn (W d v r h) (W d v r h2)) (j : Nat) (o : Option Nat) (h : Nat) : cv_wj W j (cv_mn o (some h)) = cv_mn (cv_wj W j o) (cv_wj W j (some h)) := by
  cases o with
  | none => rfl
  | some z => simp only [cv_mn, cv_wj]; rw [hm]; rfl
theorem cv_pt_set {W : cv_VT} (hm : ∀ d v r h h2, W d v r (min h h2) = cv_mn (W d v r h) (W d v r h2)) {T : Nat → Option Nat} {j k h : Nat} : ∀ n, cv_pt W (cv_ss T k (cv_mn (T k) (some h))) j n = cv_mn (cv_pt W T j n) (if j ≤ k ∧ k < n then cv_wj W k (some h) else none)
  | 0 => by rw [if_neg (by omega)]; rfl
  | n + 1 => by
    simp only [cv_pt]
    rw [cv_pt_set hm n]
    by_cases e : n = k
    · subst e
      rw [cv_ss_s, if_neg (by omega), cv_mn_1]
      by_cases q : j ≤ n
      · rw [if_pos q, if_pos q, if_pos ⟨q, by omega⟩, cv_wj_mn hm, cv_mn_as]
      · rw [if_neg q, if_neg q, if_neg (by omega), cv_mn_1, cv_mn_1]
    · rw [cv_ss_n e]
      have e2 : (j ≤ k ∧ k < n + 1) ↔ (j ≤ k ∧ k < n) := by omega
      simp only [e2]
      rw [cv_mn_as, cv_mn_as, cv_mn_c (if j ≤ k ∧ k < n then cv_wj W k (some h) else none)]
abbrev cv_PT (W : cv_VT) (T : Nat → Option Nat) (j : Nat) : Option Nat := cv_pt W T j 48
theorem cv_wj_at {W : cv_VT} {d v r h : Nat} (hv : v < 3) (hr : r < 2) : cv_wj W ((3 * d + v) * 2 + r) (some h) = W d v r h := by
  simp only [cv_wj]
  rw [show ((3 * d + v) * 2 + r) / 6 = d by omega, show ((3 * d + v) * 2 + r) / 2 % 3 = v by omega, show ((3 * d + v) * 2 + r) % 2 = r by omega]
theorem cv_cm_pot {W : cv_VT} (hm : ∀ d v r h h2, W d v r (min h h2) = cv_mn (W d v r h) (W d v r h2)) {T : Nat → Option Nat} {d v r h j : Nat} (hv : v < 3) (hr : r < 2) (hj : j ≤ (3 * d + v) * 2 + r) : cv_PT W (cv_cm T d v r h) j = cv_mn (cv_PT W T j) (if d < 8 then W d v r h else none) := by
  unfold cv_cm
  by_cases e : d < 8
  · rw [if_pos e, if_pos e, cv_PT, cv_pt_set hm, if_pos ⟨hj, by omega⟩, cv_wj_at hv hr]
  · rw [if_neg e, if_neg e, cv_mn_1]
/-- the value over one pass, over all below n -/
def cv_p1 (L : cv_L) (x : Int32) (W : cv_VT) (d v r h p : Nat) : Option Nat := if (decide (¬ nI p = x) && cv_op L p d) = true then (match cv_oe L p v with
  | none => none
  | some w => if d + cv_tk L p < 8 then W (d + cv_tk L p) w r h else none) else none
def cv_pw (L : cv_L) (x : Int32) (W : cv_VT) (d v r h : Nat) : Nat → Option Nat
  | 0 => none
  | n + 1 => cv_mn (cv_pw L x W d v r h n) (cv_p1 L x W d v r h n)
theorem cv_gl_pot {L : cv_L} (hB : cv_LB L) {x : Int32} {W : cv_VT} (hm : ∀ d v r h h2, W d v r (min h h2) = cv_mn (W d v r h) (W d v r h2)) {T : Nat → Option Nat} {d v r h j : Nat} (hr : r < 2) (hj : j ≤ 6 * (d + 1)) : ∀ n, n ≤ L 7 0 → cv_PT W (cv_gl L x d v r h T n) j = cv_mn (cv_PT W T j) (cv_pw L x W d v r h n)
  | 0, _ => by simp only [cv_gl, cv_pw, cv_mn_1]
  | n + 1, hn => by
    simp only [cv_gl, cv_pw]
    unfold cv_gp cv_p1
    have ih := cv_gl_pot hB hm (T := T) (v := v) (h := h) (x := x) hr hj n (by omega)
    by_cases hc : (decide (¬ nI n = x) && cv_op L n d) = true
    · rw [if_pos hc, if_pos hc]
      cases hw : cv_oe L n v with
      | none => dsimp only; rw [ih, cv_mn_1]
      | some w =>
        dsimp only
        have h1 := cv_oe_le hB (by omega) hw
        have h2 := cv_tk_b hB (p := n) (by omega)
        rw [cv_cm_pot hm (by omega) hr (by omega), ih, cv_mn_as]
    · rw [if_neg hc, if_neg hc, ih, cv_mn_1]
theorem cv_cm_low {T : Nat → Option Nat} {d v r h i : Nat} (hi : i < 6 * d) : cv_cm T d v r h i = T i := by
  unfold cv_cm
  split
  · exact cv_ss_n (by omega)
  · rfl
theorem cv_gl_low {L : cv_L} (hB : cv_LB L) {x : Int32} {T : Nat → Option Nat} {d v r h i : Nat} (hi : i < 6 * (d + 1)) : ∀ n, n ≤ L 7 0 → cv_gl L x d v r h T n i = T i
  | 0, _ => rfl
  | n + 1, hn => by
    simp only [cv_gl]
    unfold cv_gp
    have ih := cv_gl_low hB (T := T) (v := v) (h := h) (x := x) (r := r) hi n (by omega)
    by_cases hc : (decide (¬ nI n = x) && cv_op L n d) = true
    · rw [if_pos hc]
      cases hw : cv_oe L n v with
      | none => exact ih
      | some w =>
        have h2 := cv_tk_b hB (p := n) (by omega)
        show cv_cm (cv_gl L x d v r h T n) (d + cv_tk L n) w r h i = T i
        rw [cv_cm_low (by omega), ih]
    · rw [if_neg hc]; exact ih
theorem cv_g1_low {L : cv_L} (hB : cv_LB L) {x : Int32} {S : cv_MS} {d v r i : Nat} (hi : i < 6 * (d + 1)) : (cv_g1 L x d v r S).1 i = S.1 i := by
  unfold cv_g1
  cases hT : S.1 ((3 * d + v) * 2 + r) with
  | none => rfl
  | some z =>
    show cv_gl L x d v r z (cv_cm S.1 (d + 1) v r (z + 1)) (L 7 0) i = S.1 i
    rw [cv_gl_low hB hi _ (Nat.le_refl _), cv_cm_low hi]
/-- what becomes done at a place -/
def cv_ev (L : cv_L) (E : Nat → Nat → Option Nat) (d v r : Nat) (o : Option Nat) : Option Nat := match o with
  | none => none
  | some h => if r = 1 ∧ v = 2 ∧ (L 6 2).testBit d = true then E d h else none
/-- how a place's value is made -/
def cv_rt (L : cv_L) (W : cv_VT) (E : Nat → Nat → Option Nat) (d v r h : Nat) : Option Nat := if r = 1 then (if v = 2 ∧ (L 6 2).testBit d = true then E d h else none) else (if v = 1 ∧ (L 6 1).testBit d = true then W d 1 1 h else none)
def cv_wt (W : cv_VT) (d v r h : Nat) : Option Nat := if d + 1 < 8 then W (d + 1) v r (h + 1) else none
def cv_WR (L : cv_L) (x : Int32) (W : cv_VT) (E : Nat → Nat → Option Nat) : Prop := (∀ d v r h h2, W d v r (min h h2) = cv_mn (W d v r h) (W d v r h2)) ∧ ∀ d v r h, d < 8 → v < 3 → r < 2 → W d v r h = cv_mn (cv_rt L W E d v r h) (cv_mn (cv_wt W d v r h) (cv_pw L x W d v r h (L 7 0)))
/-- rennet was given at the day's beginning -/
def cv_rb (L : cv_L) (d : Nat) (T : Nat → Option Nat) : Prop := (L 6 1).testBit d = true → ∀ h, T (6 * d + 2) = some h → ∃ h2, T (6 * d + 3) = some h2 ∧ h2 ≤ h
theorem cv_g1_pot {L : cv_L} (hB : cv_LB L) {x : Int32} {W : cv_VT} {E : Nat → Nat → Option Nat} (hW : cv_WR L x W E) {S : cv_MS} {d v r : Nat} (hd : d < 8) (hv : v < 3) (hr : r < 2) (hb : cv_rb L d S.1) : cv_PT W S.1 ((3 * d + v) * 2 + r) = cv_mn (cv_PT W (cv_g1 L x d v r S).1 ((3 * d + v) * 2 + r + 1)) (cv_ev L E d v r (S.1 ((3 * d + v) * 2 + r))) := by
  rw [cv_PT, cv_pt_peel 48 (by omega)]
  unfold cv_g1 cv_ev
  cases hT : S.1 ((3 * d + v) * 2 + r) with
  | none => rfl
  | some h =>
    dsimp only
    have e1 := cv_gl_pot hB hW.1 (T := cv_cm S.1 (d + 1) v r (h + 1)) (d := d) (v := v) (r := r) (h := h) (x := x) (j := (3 * d + v) * 2 + r + 1) hr (by omega) (L 7 0) (Nat.le_refl _)
    rw [cv_cm_pot hW.1 hv hr (by omega)] at e1
    rw [e1, cv_wj_at hv hr, hW.2 d v r h hd hv hr]
    show cv_mn (cv_PT W S.1 ((3 * d + v) * 2 + r + 1)) (cv_mn (cv_rt L W E d v r h) (cv_mn (cv_wt W d v r h) (cv_pw L x W d v r h (L 7 0)))) = cv_mn (cv_mn (cv_mn (cv_PT W S.1 ((3 * d + v) * 2 + r + 1)) (cv_wt W d v r h)) (cv_pw L x W d v r h (L 7 0))) (if r = 1 ∧ v = 2 ∧ (L 6 2).testBit d = true then E d h else none)
    rw [cv_mn_l (cv_PT W S.1 ((3 * d + v) * 2 + r + 1)) (cv_rt L W E d v r h)]
    by_cases e : r = 1
    · have : cv_rt L W E d v r h = (if r = 1 ∧ v = 2 ∧ (L 6 2).testBit d = true then E d h else none) := by
        unfold cv_rt
        rw [if_pos e]
        simp [e]
      rw [this, cv_mn_c, ← cv_mn_as]
    · rw [if_neg (fun q => e q.1), cv_mn_1]
      have hrt : cv_mn (cv_rt L W E d v r h) (cv_PT W S.1 ((3 * d + v) * 2 + r + 1)) = cv_PT W S.1 ((3 * d + v) * 2 + r + 1) := by
        unfold cv_rt
        rw [if_neg e]
        by_cases q : v = 1 ∧ (L 6 1).testBit d = true
        · rw [if_pos q]
          obtain ⟨q1, q2⟩ := q
          have er : r = 0 := by omega
          subst q1; subst er
          rw [show (3 * d + 1) * 2 + 0 = 6 * d + 2 by omega] at hT ⊢
          obtain ⟨h2, a1, a2⟩ := hb q2 h hT
          rw [show 6 * d + 2 + 1 = 6 * d + 3 by omega, cv_PT, cv_pt_peel 48 (by omega), a1, show 6 * d + 3 = (3 * d + 1) * 2 + 1 by omega, cv_wj_at (by decide) (by decide), cv_mn_l, ← hW.1, Nat.min_eq_right a2]
        · rw [if_neg q]; rfl
      rw [← cv_mn_as, hrt, ← cv_mn_as]
theorem cv_g6_low {L : cv_L} (hB : cv_LB L) {x : Int32} {S : cv_MS} {d i : Nat} (hi : i < 6 * (d + 1)) : ∀ n, (cv_g6 L x d S n).1 i = S.1 i
  | 0 => rfl
  | n + 1 => by
    simp only [cv_g6]
    rw [cv_g1_low hB hi, cv_g6_low hB hi n]
/-- both that are kept: the first day of being done, the fewest holes -/
theorem cv_g6_pot {L : cv_L} (hB : cv_LB L) {x : Int32} {W : cv_VT} {E : Nat → Nat → Option Nat} (hW : cv_WR L x W E) (A : cv_MS → Option Nat) (d : Nat) (hd : d < 8) (I : cv_MS → Prop) (hI : ∀ S v r, v < 3 → r < 2 → I S → I (cv_g1 L x d v r S)) (hA : ∀ S v r, v < 3 → r < 2 → I S → A (cv_g1 L x d v r S) = cv_mn (A S) (cv_ev L E d v r (S.1 ((3 * d + v) * 2 + r)))) {S : cv_MS} (hS : I S) (hb : cv_rb L d S.1) : ∀ n, n ≤ 6 → I (cv_g6 L x d S n) ∧ cv_mn (A (cv_g6 L x d S n)) (cv_PT W (cv_g6 L x d S n).1 (6 * d + n)) = cv_mn (A S) (cv_PT W S.1 (6 * d))
  | 0, _ => ⟨hS, rfl⟩
  | n + 1, hn => by
    obtain ⟨i1, i2⟩ := cv_g6_pot hB hW A d hd I hI hA hS hb n (by omega)
    have hb2 : cv_rb L d (cv_g6 L x d S n).1 := fun q h hh => by
      rw [cv_g6_low hB (by omega)] at hh ⊢
      exact hb q h hh
    have e : (3 * d + n / 2) * 2 + n % 2 = 6 * d + n := by omega
    have p1 := cv_g1_pot hB hW (S := cv_g6 L x d S n) (v := n / 2) (r := n % 2) hd (by omega) (by omega) hb2
    refine ⟨hI _ _ _ (by omega) (by omega) i1, ?_⟩
    simp only [cv_g6]
    rw [hA _ _ _ (by omega) (by omega) i1, ← i2]
    rw [e] at p1 ⊢
    rw [p1, ← Nat.add_assoc, cv_mn_as, cv_mn_c (cv_ev L E d (n / 2) (n % 2) ((cv_g6 L x d S n).1 (6 * d + n)))]
theorem cv_bn_pot {L : cv_L} {x : Int32} {W : cv_VT} {E : Nat → Nat → Option Nat} (hW : cv_WR L x W E) {S : cv_MS} {d : Nat} (hd : d < 8) : cv_PT W (cv_bn L d S).1 (6 * d) = cv_PT W S.1 (6 * d) ∧ cv_rb L d (cv_bn L d S).1 ∧ (cv_bn L d S).2 = S.2 := by
  unfold cv_bn
  have e2 : (3 * d + 1) * 2 + 0 = 6 * d + 2 := by omega
  cases hT : S.1 ((3 * d + 1) * 2 + 0) with
  | none =>
    refine ⟨rfl, ?_, rfl⟩
    intro _ h9 hh
    rw [e2] at hT
    have hh : S.1 (6 * d + 2) = some h9 := hh
    rw [hT] at hh
    cases hh
  | some b =>
    dsimp only
    by_cases q : (L 6 1).testBit d = true
    · rw [if_pos q]
      refine ⟨?_, ?_, rfl⟩
      · show cv_PT W (cv_cm S.1 d 1 1 b) (6 * d) = cv_PT W S.1 (6 * d)
        rw [cv_cm_pot hW.1 (by decide) (by decide) (by omega), if_pos hd]
        have p0 : cv_PT W S.1 (6 * d) = cv_mn (cv_PT W S.1 (6 * d)) (W d 1 0 b) := by
          rw [cv_PT, cv_pt_peel 48 (by omega), cv_pt_peel 48 (by omega), cv_pt_peel 48 (by omega)]
          rw [show 6 * d + 1 + 1 = (3 * d + 1) * 2 + 0 by omega, hT, cv_wj_at (by decide) (by decide)]
          generalize cv_pt W S.1 ((3 * d + 1) * 2 + 0 + 1) 48 = a1
          generalize cv_wj W (6 * d + 1) (S.1 (6 * d + 1)) = a2
          generalize cv_wj W (6 * d) (S.1 (6 * d)) = a3
          exact cv_mn_ab a1 a2 a3 (W d 1 0 b)
        have p1 : cv_mn (W d 1 0 b) (W d 1 1 b) = W d 1 0 b := by
          rw [hW.2 d 1 0 b hd (by decide) (by decide)]
          have : cv_rt L W E d 1 0 b = W d 1 1 b := by
            unfold cv_rt
            rw [if_neg (by decide), if_pos ⟨rfl, q⟩]
          rw [this, cv_mn_c, ← cv_mn_as, cv_mn_i]
        rw [p0, cv_mn_as, p1]
      · intro _ h9 hh
        have hh : cv_cm S.1 d 1 1 b (6 * d + 2) = some h9 := hh
        show ∃ h2, cv_cm S.1 d 1 1 b (6 * d + 3) = some h2 ∧ h2 ≤ h9
        unfold cv_cm at hh ⊢
        rw [if_pos hd] at hh ⊢
        rw [show (3 * d + 1) * 2 + 1 = 6 * d + 3 by omega] at hh ⊢
        rw [cv_ss_n (by omega)] at hh
        rw [e2] at hT
        rw [hT] at hh
        cases hh
        rw [cv_ss_s]
        cases S.1 (6 * d + 3) with
        | none => exact ⟨b, rfl, Nat.le_refl _⟩
        | some z => exact ⟨min z b, rfl, Nat.min_le_right _ _⟩
    · rw [if_neg q]
      exact ⟨rfl, fun h => absurd h q, rfl⟩
theorem cv_ml_pot {L : cv_L} (hB : cv_LB L) {x : Int32} {W : cv_VT} {E : Nat → Nat → Option Nat} (hW : cv_WR L x W E) (A : cv_MS → Option Nat) (hA2 : ∀ S S', S.2 = S'.2 → A S = A S') (I : Nat → cv_MS → Prop) (hI : ∀ d S v r, v < 3 → r < 2 → I d S → I d (cv_g1 L x d v r S)) (hI2 : ∀ d S S', S.2 = S'.2 → I d S → I d S') (hI3 : ∀ d S, I d S → I (d + 1) S) (hA : ∀ d S v r, v < 3 → r < 2 → I d S → A (cv_g1 L x d v r S) = cv_mn (A S) (cv_ev L E d v r (S.1 ((3 * d + v) * 2 + r)))) (f : Nat) {S : cv_MS} (hS : I f S) : ∀ n, f + n ≤ 8 → I (f + n) (cv_ml L x f S n) ∧ cv_mn (A (cv_ml L x f S n)) (cv_PT W (cv_ml L x f S n).1 (6 * (f + n))) = cv_mn (A S) (cv_PT W S.1 (6 * f))
  | 0, _ => ⟨hS, rfl⟩
  | n + 1, hn => by
    obtain ⟨i1, i2⟩ := cv_ml_pot hB hW A hA2 I hI hI2 hI3 hA f hS n (by omega)
    obtain ⟨b1, b2, b3⟩ := cv_bn_pot hW (S := cv_ml L x f S n) (d := f + n) (by omega)
    obtain ⟨g1, g2⟩ := cv_g6_pot hB hW A (f + n) (by omega) (I (f + n)) (hI (f + n)) (hA (f + n)) (S := cv_bn L (f + n) (cv_ml L x f S n)) (hI2 _ _ _ b3.symm i1) b2 6 (Nat.le_refl _)
    refine ⟨hI3 _ _ g1, ?_⟩
    simp only [cv_ml]
    rw [show 6 * (f + (n + 1)) = 6 * (f + n) + 6 by omega, g2, b1, hA2 _ _ b3, i2]
theorem cv_mw_pot {L : cv_L} (hB : cv_LB L) {x : Int32} {W : cv_VT} {E : Nat → Nat → Option Nat} (hW : cv_WR L x W E) (A : cv_MS → Option Nat) (hA2 : ∀ S S', S.2 = S'.2 → A S = A S') (I : Nat → cv_MS → Prop) (hI : ∀ d S v r, v < 3 → r < 2 → I d S → I d (cv_g1 L x d v r S)) (hI2 : ∀ d S S', S.2 = S'.2 → I d S → I d S') (hI3 : ∀ d S, I d S → I (d + 1) S) (hA : ∀ d S v r, v < 3 → r < 2 → I d S → A (cv_g1 L x d v r S) = cv_mn (A S) (cv_ev L E d v r (S.1 ((3 * d + v) * 2 + r)))) {f : Nat} (hf : f < 8) (hS : I f (cv_m0 L f)) (h0 : A (cv_m0 L f) = none) : A (cv_mw L x f) = if (L 6 0).testBit f = true then W f 0 0 0 else none := by
  have h1 := (cv_ml_pot hB hW A hA2 I hI hI2 hI3 hA f hS (8 - f) (by omega)).2
  rw [show 6 * (f + (8 - f)) = 48 by omega, cv_PT, cv_pt_ge 48 (Nat.le_refl _), cv_mn_1, h0, cv_mn_0] at h1
  have hn : ∀ n j, cv_pt W (fun _ => none) j n = none := by
    intro n j
    induction n with
    | zero => rfl
    | succ n ih => simp only [cv_pt]; rw [ih]; split <;> rfl
  show A (cv_ml L x f (cv_m0 L f) (8 - f)) = _
  rw [h1]
  unfold cv_m0
  dsimp only
  split
  · rw [cv_cm_pot hW.1 (by decide) (by decide) (by omega), cv_PT, hn, cv_mn_0, if_pos hf]
  · exact hn 48 _
/-- the fewest holes -/
theorem cv_mw_dh {L : cv_L} (hB : cv_LB L) {x : Int32} {W : cv_VT} (hW : cv_WR L x W (fun _ h => some h)) {f : Nat} (hf : f < 8) : (cv_mw L x f).2.2 = if (L 6 0).testBit f = true then W f 0 0 0 else none := by
  refine cv_mw_pot hB hW (fun S => S.2.2) (fun S S' h => by rw [h]) (fun _ _ => True) (fun _ _ _ _ _ _ _ => trivial) (fun _ _ _ _ _ => trivial) (fun _ _ _ => trivial) (fun d S v r hv hr _ => ?_) hf trivial rfl
  try dsimp only
  unfold cv_g1 cv_ev
  cases hT : S.1 ((3 * d + v) * 2 + r) with
  | none => exact (cv_mn_1 _).symm
  | some h =>
    dsimp only
    split
    · rfl
    · exact (cv_mn_1 _).symm
/-- the first day of being done -/
theorem cv_mw_dn {L : cv_L} (hB : cv_LB L) {x : Int32} {W : cv_VT} (hW : cv_WR L x W (fun d _ => some d)) {f : Nat} (hf : f < 8) : (cv_mw L x f).2.1 = if (L 6 0).testBit f = true then W f 0 0 0 else none := by
  refine cv_mw_pot hB hW (fun S => S.2.1) (fun S S' h => by rw [h]) (fun d S => ∀ z, S.2.1 = some z → z ≤ d) (fun d S v r hv hr hI z hz => ?_) (fun d S S' h hI z hz => hI z (by rw [h]; exact hz)) (fun d S hI z hz => Nat.le_succ_of_le (hI z hz)) (fun d S v r hv hr hI => ?_) hf (fun z hz => by cases hz) rfl
  · unfold cv_g1 at hz
    cases hT : S.1 ((3 * d + v) * 2 + r) with
    | none => rw [hT] at hz; exact hI z hz
    | some h =>
      rw [hT] at hz
      dsimp only at hz
      split at hz
      · dsimp only at hz
        cases h0 : S.2.1 with
        | none => rw [h0] at hz; cases hz; exact Nat.le_refl _
        | some y => rw [h0] at hz; cases hz; exact hI z h0
      · exact hI z hz
  · try dsimp only
    unfold cv_g1 cv_ev
    cases hT : S.1 ((3 * d + v) * 2 + r) with
    | none => exact (cv_mn_1 _).symm
    | some h =>
      dsimp only
      split
      · dsimp only
        cases h0 : S.2.1 with
        | none => rfl
        | some y => simp only [cv_kf, cv_mn]; rw [Nat.min_eq_left (hI y h0)]
      · exact (cv_mn_1 _).symm
