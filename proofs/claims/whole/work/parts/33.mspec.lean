/-! ===== what the reference reckons ===== -/
/-- a wheel comes to a place with h holes -/
def cv_cm (T : Nat → Option Nat) (d v r h : Nat) : Nat → Option Nat := if d < 8 then cv_ss T ((3 * d + v) * 2 + r) (cv_mn (T ((3 * d + v) * 2 + r)) (some h)) else T
def cv_TM (T : Nat → Option Nat) (μ : cv_St) : Prop := ∀ j, j < 48 → μ 14 j = cv_o (T j)
def cv_TZ (T : Nat → Option Nat) : Prop := ∀ j z, T j = some z → z ≤ j / 6
theorem cv_cm_z {T : Nat → Option Nat} (hz : cv_TZ T) {d v r h : Nat} (hv : v < 3) (hr : r < 2) (hh : h ≤ d) : cv_TZ (cv_cm T d v r h) := by
  intro j z hj
  unfold cv_cm at hj
  split at hj
  · by_cases e : j = (3 * d + v) * 2 + r
    · rw [e, cv_ss_s] at hj
      have hd : ((3 * d + v) * 2 + r) / 6 = d := by omega
      rw [e, hd]
      exact cv_mn_le (fun z hz2 => by have := hz _ _ hz2; omega) (fun z hz2 => by cases hz2; exact hh) z hj
    · rw [cv_ss_n e] at hj
      exact hz j z hj
  · exact hz j z hj
/-- over one pass, then over all below n -/
def cv_gp (L : cv_L) (x : Int32) (d v r h : Nat) (T : Nat → Option Nat) (p : Nat) : Nat → Option Nat := if (decide (¬ nI p = x) && cv_op L p d) = true then (match cv_oe L p v with
  | none => T
  | some w => cv_cm T (d + cv_tk L p) w r h) else T
def cv_gl (L : cv_L) (x : Int32) (d v r h : Nat) (T : Nat → Option Nat) : Nat → Nat → Option Nat
  | 0 => T
  | n + 1 => cv_gp L x d v r h (cv_gl L x d v r h T n) n
/-- the first that came stays -/
def cv_kf (o : Option Nat) (d : Nat) : Option Nat := match o with
  | none => some d
  | some z => some z
abbrev cv_MS : Type := (Nat → Option Nat) × Option Nat × Option Nat
/-- a place is gone on from -/
def cv_g1 (L : cv_L) (x : Int32) (d v r : Nat) (S : cv_MS) : cv_MS := match S.1 ((3 * d + v) * 2 + r) with
  | none => S
  | some h => (cv_gl L x d v r h (cv_cm S.1 (d + 1) v r (h + 1)) (L 7 0), if r = 1 ∧ v = 2 ∧ (L 6 2).testBit d = true then (cv_kf S.2.1 d, cv_mn S.2.2 (some h)) else (S.2.1, S.2.2))
def cv_g6 (L : cv_L) (x : Int32) (d : Nat) (S : cv_MS) : Nat → cv_MS
  | 0 => S
  | n + 1 => cv_g1 L x d (n / 2) (n % 2) (cv_g6 L x d S n)
/-- rennet, at a day's beginning -/
def cv_bn (L : cv_L) (d : Nat) (S : cv_MS) : cv_MS := match S.1 ((3 * d + 1) * 2 + 0) with
  | none => S
  | some b => if (L 6 1).testBit d = true then (cv_cm S.1 d 1 1 b, S.2) else S
def cv_ml (L : cv_L) (x : Int32) (f : Nat) (S : cv_MS) : Nat → cv_MS
  | 0 => S
  | n + 1 => cv_g6 L x (f + n) (cv_bn L (f + n) (cv_ml L x f S n)) 6
def cv_m0 (L : cv_L) (f : Nat) : cv_MS := (if (L 6 0).testBit f = true then cv_cm (fun _ => none) f 0 0 0 else fun _ => none, none, none)
def cv_mw (L : cv_L) (x : Int32) (f : Nat) : cv_MS := cv_ml L x f (cv_m0 L f) (8 - f)
theorem cv_gl_z {L : cv_L} (hB : cv_LB L) {x : Int32} {d v r h : Nat} (hr : r < 2) (hh : h ≤ d) {T : Nat → Option Nat} (hz : cv_TZ T) : ∀ n, n ≤ L 7 0 → cv_TZ (cv_gl L x d v r h T n)
  | 0, _ => hz
  | n + 1, hn => by
    have ih := cv_gl_z hB hr hh hz n (by omega) (x := x) (v := v)
    simp only [cv_gl]
    unfold cv_gp
    split
    · split
      · exact ih
      · rename_i w hw
        exact cv_cm_z ih (by have := cv_oe_le hB (by omega) hw; omega) hr (by have := cv_tk_b hB (p := n) (by omega); omega)
    · exact ih
/-- dn and dh are small -/
def cv_SZ (S : cv_MS) : Prop := cv_TZ S.1 ∧ (∀ z, S.2.1 = some z → z ≤ 8) ∧ ∀ z, S.2.2 = some z → z ≤ 8
theorem cv_g1_z {L : cv_L} (hB : cv_LB L) {x : Int32} {d v r : Nat} (hd : d < 8) (hv : v < 3) (hr : r < 2) {S : cv_MS} (hz : cv_SZ S) : cv_SZ (cv_g1 L x d v r S) := by
  unfold cv_g1
  split
  · exact hz
  · rename_i h hh
    have h1 := hz.1 _ _ hh
    have e : ((3 * d + v) * 2 + r) / 6 = d := by omega
    rw [e] at h1
    refine ⟨cv_gl_z hB hr h1 (cv_cm_z hz.1 hv hr (by omega)) _ (Nat.le_refl _), ?_, ?_⟩
    · dsimp only
      split
      · dsimp only
        intro z hz2
        cases h0 : S.2.1 with
        | none => rw [h0] at hz2; cases hz2; omega
        | some z0 => rw [h0] at hz2; cases hz2; exact hz.2.1 z h0
      · exact hz.2.1
    · dsimp only
      split
      · exact cv_mn_le hz.2.2 (fun z h2 => by cases h2; omega)
      · exact hz.2.2
theorem cv_g6_z {L : cv_L} (hB : cv_LB L) {x : Int32} {d : Nat} (hd : d < 8) {S : cv_MS} (hz : cv_SZ S) : ∀ n, n ≤ 6 → cv_SZ (cv_g6 L x d S n)
  | 0, _ => hz
  | n + 1, hn => cv_g1_z hB hd (by omega) (by omega) (cv_g6_z hB hd hz n (by omega))
theorem cv_bn_z {L : cv_L} {d : Nat} {S : cv_MS} (hz : cv_SZ S) : cv_SZ (cv_bn L d S) := by
  unfold cv_bn
  split
  · exact hz
  · rename_i b hb
    split
    · have h1 := hz.1 _ _ hb
      exact ⟨cv_cm_z hz.1 (by decide) (by decide) (by omega), hz.2⟩
    · exact hz
theorem cv_ml_z {L : cv_L} (hB : cv_LB L) {x : Int32} {f : Nat} {S : cv_MS} (hz : cv_SZ S) : ∀ n, f + n ≤ 8 → cv_SZ (cv_ml L x f S n)
  | 0, _ => hz
  | n + 1, hn => cv_g6_z hB (by omega) (cv_bn_z (cv_ml_z hB hz n (by omega))) 6 (Nat.le_refl _)
theorem cv_m0_z (L : cv_L) (f : Nat) : cv_SZ (cv_m0 L f) := by
  refine ⟨?_, fun z h => (by cases h), fun z h => (by cases h)⟩
  unfold cv_m0
  dsimp only
  split
  · exact cv_cm_z (fun j z h => by cases h) (by decide) (by decide) (Nat.zero_le _)
  · exact fun j z h => by cases h
/-- what the reference's scratch leaves as it was -/
def cv_fm (μ u : cv_St) : Prop := (∀ k, k ≠ 0 → ¬ (11 ≤ k ∧ k ≤ 14) → u k = μ k) ∧ ∀ i, i < 14 ∨ i = 26 → u 0 i = μ 0 i
theorem cv_fm_r (μ : cv_St) : cv_fm μ μ := ⟨fun _ _ _ => rfl, fun _ _ => rfl⟩
theorem cv_fm_t {μ u w : cv_St} (h1 : cv_fm μ u) (h2 : cv_fm u w) : cv_fm μ w := ⟨fun k a b => (h2.1 k a b).trans (h1.1 k a b), fun i h => (h2.2 i h).trans (h1.2 i h)⟩
theorem cv_LM_k {L : cv_L} {μ u : cv_St} (h : cv_fm μ u) (hL : cv_LM L μ) : cv_LM L u :=
  ⟨by rw [h.2 5 (by decide)]; exact hL.1, fun d hd => by rw [h.1 4 (by decide) (by decide)]; exact hL.2.1 d hd, fun v hv => by rw [h.1 5 (by decide) (by decide)]; exact hL.2.2.1 v hv, fun p hp i hi => by rw [h.1 (6 + i) (by omega) (by omega)]; exact hL.2.2.2 p hp i hi⟩
def cv_DM (rc : Nat) (rd : Nat → Nat) (rn : Nat → Option Nat) (μ : cv_St) : Prop := μ 0 26 = nI rc ∧ ∀ k, k < rc → μ 15 k = nI (rd k) ∧ μ 16 k = cv_o (rn k)
theorem cv_DM_k {rc : Nat} {rd : Nat → Nat} {rn : Nat → Option Nat} {μ u : cv_St} (h : cv_fm μ u) (hD : cv_DM rc rd rn μ) : cv_DM rc rd rn u :=
  ⟨by rw [h.2 26 (by decide)]; exact hD.1, fun k hk => by rw [h.1 15 (by decide) (by decide), h.1 16 (by decide) (by decide)]; exact hD.2 k hk⟩
def cv_M1 (o : Option (Nat × Nat)) (s l : Int32) : Prop := match o with
  | none => s = -9
  | some q => s = nI q.1 ∧ l = nI q.2 ∧ q.1 < 3 ∧ q.2 ≤ 60
def cv_RM (tr : Int32) (ft : Nat) (sl : Nat → Option (Nat × Nat)) (sc : Nat → Nat → Int32) (L : cv_L) (rc : Nat) (rd : Nat → Nat) (rn : Nat → Option Nat) (μ : cv_St) : Prop :=
  μ 0 1 = tr ∧ μ 0 0 = nI ft ∧ (∀ k, k < 4 → cv_M1 (sl k) (μ 1 k) (μ 2 k) ∧ ((sl k).isSome = true → ∀ i, i < 60 → μ 3 (60 * k + i) = sc k i)) ∧ cv_LM L μ ∧ μ 0 13 = -9 ∧ cv_DM rc rd rn μ
theorem cv_RM_k {tr : Int32} {ft : Nat} {sl : Nat → Option (Nat × Nat)} {sc : Nat → Nat → Int32} {L : cv_L} {rc : Nat} {rd : Nat → Nat} {rn : Nat → Option Nat} {μ u : cv_St} (h : cv_fm μ u) (hR : cv_RM tr ft sl sc L rc rd rn μ) : cv_RM tr ft sl sc L rc rd rn u := by
  obtain ⟨h1, h2, h3, h4, h5, h6⟩ := hR
  refine ⟨by rw [h.2 1 (by decide)]; exact h1, by rw [h.2 0 (by decide)]; exact h2, fun k hk => by rw [h.1 1 (by decide) (by decide), h.1 2 (by decide) (by decide), h.1 3 (by decide) (by decide)]; exact h3 k hk, cv_LM_k h h4, by rw [h.2 13 (by decide)]; exact h5, cv_DM_k h h6⟩
