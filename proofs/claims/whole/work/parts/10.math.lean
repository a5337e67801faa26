/-! ===== what the class reckons, by numbers ===== -/
/-- a pass's share of a valley's reach on a day -/
def cv_rc (L : cv_L) (cl : Nat → Bool) (f : Nat → Nat) (v d p : Nat) : Nat := if cl p = true then 0 else match cv_ar L p v d with
  | none => 0
  | some c => f (c * 3 + (cv_oe L p v).getD 0)
def cv_rl (L : cv_L) (cl : Nat → Bool) (f : Nat → Nat) (v d i0 : Nat) : Nat → Nat
  | 0 => i0
  | k + 1 => cv_rl L cl f v d i0 k ||| cv_rc L cl f v d k
/-- how a valley's reach on a day is made of the later ones -/
def cv_rv (L : cv_L) (cl : Nat → Bool) (f : Nat → Nat) (v d : Nat) : Nat := cv_rl L cl f v d (if d < 7 then 2 ^ (8 * v + d) ||| f ((d + 1) * 3 + v) else 2 ^ (8 * v + d)) (L 7 0)
/-- the chart behind k days, from day 7 on down -/
def cv_RT (L : cv_L) (cl : Nat → Bool) : Nat → Nat → Nat
  | 0 => fun _ => 0
  | k + 1 => fun j => if j / 3 = 7 - k then cv_rv L cl (cv_RT L cl k) (j % 3) (7 - k) else cv_RT L cl k j
/-- the first day of a set -/
def cv_fd (t : Nat) : Option Nat := (List.range 8).find? (fun i => t.testBit i)
theorem cv_fd_some {t k : Nat} (hk : k < 8) (h : t.testBit k = true) (h0 : ∀ i, i < k → t.testBit i = false) : cv_fd t = some k := by
  unfold cv_fd
  rw [List.find?_range_eq_some]
  exact ⟨h, List.mem_range.mpr hk, fun j hj => by simp [h0 j hj]⟩
theorem cv_fd_none {t : Nat} (h : ∀ i, i < 8 → t.testBit i = false) : cv_fd t = none := by
  unfold cv_fd
  rw [List.find?_eq_none]
  intro x hx
  simp [h x (List.mem_range.mp hx)]
theorem cv_fd_lt {t k : Nat} (h : cv_fd t = some k) : k < 8 := by
  unfold cv_fd at h
  exact List.mem_range.mp (List.mem_of_find?_eq_some h)
def cv_fi (f : Nat → Nat) (w v d t : Nat) : Option Nat := cv_fd (f (d * 3 + v) / 2 ^ (8 * w) &&& t)
/-- the day of being done, by a chart f, of milk of day d (days of milk g), with days r of rennet and t of salt -/
def cv_dw (f : Nat → Nat) (g d r t : Nat) : Option Nat := if g.testBit d = true then (match cv_fi f 1 0 d r with
  | none => none
  | some x => cv_fi f 2 1 x t) else none
theorem cv_fi_lt {f : Nat → Nat} {w v d t z : Nat} (h : cv_fi f w v d t = some z) : z < 8 := cv_fd_lt h
theorem cv_dw_lt {f : Nat → Nat} {g d r t z : Nat} (h : cv_dw f g d r t = some z) : z < 8 := by
  unfold cv_dw at h
  split at h
  · split at h
    · cases h
    · exact cv_fi_lt h
  · cases h
def cv_by (o : Option Nat) (fair : Nat) : Bool := match o with
  | none => false
  | some z => decide (z ≤ fair)
/-- a chart that the row 20 holds -/
def cv_TC (f : Nat → Nat) (σ : cv_St) : Prop := ∀ j, j < 24 → σ 20 j = nI (f j) ∧ f j < 2 ^ 31
theorem cv_LC_k {L : cv_L} {σ τ : cv_St} (h : ∀ k, k ≠ 20 → k ≠ 21 → k ≠ 22 → τ k = σ k) (hL : cv_LC L σ) (hB : cv_LB L) : cv_LC L τ := by
  obtain ⟨h1, h2, h3, h4⟩ := hL
  refine ⟨by rw [h 10 (by decide) (by decide) (by decide)]; exact h1, fun d hd => by rw [h 18 (by decide) (by decide) (by decide)]; exact h2 d hd, fun v hv => by rw [h 19 (by decide) (by decide) (by decide)]; exact h3 v hv, fun p hp i hi => ?_⟩
  have := hB.1
  rw [h (12 + p) (by omega) (by omega) (by omega)]
  exact h4 p hp i hi
def cv_CO (L : cv_L) (cl : Nat → Bool) (σ τ : cv_St) (j : Nat) : Prop := (∀ k, k ≠ 20 → τ k = σ k) ∧ ∀ i, i < 24 → j ≤ i / 3 → τ 20 i = nI (cv_RT L cl (8 - j) i)
def cv_CI (L : cv_L) (cl : Nat → Bool) (σ τ : cv_St) (j v : Nat) : Prop := (∀ k, k ≠ 20 → τ k = σ k) ∧ (∀ i, i < 24 → j < i / 3 → τ 20 i = nI (cv_RT L cl (7 - j) i)) ∧ ∀ i, i < 24 → i / 3 = j → i % 3 < v → τ 20 i = nI (cv_rv L cl (cv_RT L cl (7 - j)) (i % 3) j)
theorem cv_CO_0 (L : cv_L) (cl : Nat → Bool) (σ : cv_St) : cv_CO L cl σ σ 8 := ⟨fun _ _ => rfl, fun i h1 h2 => by omega⟩
theorem cv_CI_0 {L : cv_L} {cl : Nat → Bool} {σ τ : cv_St} {j : Nat} (h : cv_CO L cl σ τ (j + 1)) : cv_CI L cl σ τ j 0 := ⟨h.1, fun i h1 h2 => by
  have := h.2 i h1 h2
  rwa [show 8 - (j + 1) = 7 - j by omega] at this, fun i _ _ h => by omega⟩
theorem cv_CI_s {L : cv_L} {cl : Nat → Bool} {σ τ : cv_St} {j v : Nat} (h : cv_CI L cl σ τ j v) (hv : v < 3) (hj : j < 8) : cv_CI L cl σ (cv_u τ 20 (j * 3 + v) (nI (cv_rv L cl (cv_RT L cl (7 - j)) v j))) j (v + 1) := by
  refine ⟨fun k hk => by rw [cv_u_c hk]; exact h.1 k hk, fun i h1 h2 => by rw [cv_u_i (by omega)]; exact h.2.1 i h1 h2, fun i h1 h2 h3 => ?_⟩
  by_cases e : i = j * 3 + v
  · subst e
    rw [cv_u_s, show (j * 3 + v) % 3 = v by omega]
  · rw [cv_u_i e]
    exact h.2.2 i h1 h2 (by omega)
theorem cv_CO_s {L : cv_L} {cl : Nat → Bool} {σ τ : cv_St} {j : Nat} (h : cv_CI L cl σ τ j 3) (hj : j < 8) : cv_CO L cl σ τ j := by
  refine ⟨h.1, fun i h1 h2 => ?_⟩
  rw [show 8 - j = (7 - j) + 1 by omega]
  simp only [cv_RT]
  rw [show 7 - (7 - j) = j by omega]
  by_cases e : i / 3 = j
  · rw [if_pos e]
    exact h.2.2 i h1 e (by omega)
  · rw [if_neg e]
    exact h.2.1 i h1 (by omega)
theorem cv_rl_lt {L : cv_L} {cl : Nat → Bool} {f : Nat → Nat} {v d i0 : Nat} (hf : ∀ j, f j < 2 ^ 24) (h0 : i0 < 2 ^ 24) : ∀ k, cv_rl L cl f v d i0 k < 2 ^ 24
  | 0 => h0
  | k + 1 => by
    have h1 : cv_rc L cl f v d k < 2 ^ 24 := by
      unfold cv_rc
      split
      · decide
      · split
        · decide
        · exact hf _
    exact Nat.or_lt_two_pow (cv_rl_lt hf h0 k) h1
theorem cv_RT_lt (L : cv_L) (cl : Nat → Bool) : ∀ k j, cv_RT L cl k j < 2 ^ 24
  | 0, j => by simp [cv_RT]
  | k + 1, j => by
    simp only [cv_RT]
    split
    · have hp : 2 ^ (8 * (j % 3) + (7 - k)) < 2 ^ 24 := Nat.pow_lt_pow_right (by decide) (by omega)
      refine cv_rl_lt (cv_RT_lt L cl k) ?_ _
      split
      · exact Nat.or_lt_two_pow hp (cv_RT_lt L cl k _)
      · exact hp
    · exact cv_RT_lt L cl k j
theorem cv_TC_of {L : cv_L} {cl : Nat → Bool} {σ τ : cv_St} (h : cv_CO L cl σ τ 0) : cv_TC (cv_RT L cl 8) τ := fun j hj => ⟨h.2 j hj (Nat.zero_le _), Nat.lt_trans (cv_RT_lt L cl 8 j) (by decide)⟩
/-- sets, counted -/
def cv_cnt (P : Nat → Bool) : Nat → Nat
  | 0 => 0
  | n + 1 => cv_cnt P n + (if P n = true then 1 else 0)
theorem cv_cnt_le (P : Nat → Bool) : ∀ n, cv_cnt P n ≤ n
  | 0 => Nat.le_refl 0
  | n + 1 => by
    have := cv_cnt_le P n
    simp only [cv_cnt]
    split <;> omega
