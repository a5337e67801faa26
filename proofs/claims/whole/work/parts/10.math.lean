/-! ===== what the class reckons, by numbers ===== -/
/-- a pass's share of a valley's reach on a day -/
def cv_rc (L : cv_L) (cl : Nat → Bool) (f : Nat → Nat) (v d p : Nat) : Nat := if cl p = true then 0 else match cv_ar L p v d with
  | none => 0
  | some c => f (c * 3 + (cv_oe L p v).getD 0)
def cv_rl (L : cv_L) (cl : Nat → Bool) (f : Nat → Nat) (v d i0 : Nat) : Nat → Nat
  | 0 => i0
  | k + 1 => cv_rl L cl f v d i0 k ||| cv_rc L cl f v d k
/-- how a valley's reach on a day is made of the later ones -/
def cv_rv (L : cv_L) (cl : Nat → Bool) (f : Nat → Nat) (v d : Nat) : Nat := cv_rl L cl f v d (if d < 7 then 2 ^ (8 * v + d) ||| f ((d + 1) * 3 + v) else 2 ^ (8 * v + d)) (L 7 0)
/-- the chart behind k days, from day 7 on down -/
def cv_RT (L : cv_L) (cl : Nat → Bool) : Nat → Nat → Nat
  | 0 => fun _ => 0
  | k + 1 => fun j => if j / 3 = 7 - k then cv_rv L cl (cv_RT L cl k) (j % 3) (7 - k) else cv_RT L cl k j
/-- the first day of a set -/
def cv_fd (t : Nat) : Option Nat := (List.range 8).find? (fun i => t.testBit i)
theorem cv_fd_some {t k : Nat} (hk : k < 8) (h : t.testBit k = true) (h0 : ∀ i, i < k → t.testBit i = false) : cv_fd t = some k := by
  unfold cv_fd
  rw [List.find?_range_eq_some]
  exact ⟨h, List.mem_range.mpr hk, fun j hj => by simp [h0 j hj]⟩
theorem cv_fd_none {t : Nat} (h : ∀ i, i < 8 → t.testBit i = false) : cv_fd t = none := by
  unfold cv_fd
  rw [List.find?_eq_none]
  intro x hx
  simp [h x (List.mem_range.mp hx)]
theorem cv_fd_lt {t k : Nat} (h : cv_fd t = some k) : k < 8 := by
  unfold cv_fd at h
  exact List.mem_range.mp (List.mem_of_find?_eq_some h)
def cv_fi (f : Nat → Nat) (w v d t : Nat) : Option Nat := cv_fd (f (d * 3 + v) / 2 ^ (8 * w) &&& t)
/-- the day of being done, by a chart f, of milk of day d (days of milk g), with days r of rennet and t of salt -/
def cv_dw (f : Nat → Nat) (g d r t : Nat) : Option Nat := if g.testBit d = true then (match cv_fi f 1 0 d r with
  | none => none
  | some x => cv_fi f 2 1 x t) else none
theorem cv_fi_lt {f : Nat → Nat} {w v d t z : Nat} (h : cv_fi f w v d t = some z) : z < 8 := cv_fd_lt h
theorem cv_dw_lt {f : Nat → Nat} {g d r t z : Nat} (h : cv_dw f g d r t = some z) : z < 8 := by
  unfold cv_dw at h
  split at h
  · split at h
    · cases h
    · exact cv_fi_lt h
  · cases h
def cv_by (o : Option Nat) (fair : Nat) : Bool := match o with
  | none => false
  | some z => decide (z ≤ fair)
/-- a chart that the row 20 holds -/
def cv_TC (f : Nat → Nat) (σ : cv_St) : Prop := ∀ j, j < 24 → σ 20 j = nI (f j) ∧ f j < 2 ^ 31
theorem cv_LC_k {L : cv_L} {σ τ : cv_St} (h : ∀ k, k ≠ 20 → k ≠ 21 → k ≠ 22 → τ k = σ k) (hL : cv_LC L σ) (hB : cv_LB L) : cv_LC L τ := by
  obtain ⟨h1, h2, h3, h4⟩ := hL
  refine ⟨by rw [h 10 (by decide) (by decide) (by decide)]; exact h1, fun d hd => by rw [h 18 (by decide) (by decide) (by decide)]; exact h2 d hd, fun v hv => by rw [h 19 (by decide) (by decide) (by decide)]; exact h3 v hv, fun p hp i hi => ?_⟩
  have := hB.1
  rw [h (12 + p) (by omega) (by omega) (by omega)]
  exact h4 p hp i hi
def cv_CO (L : cv_L) (cl : Nat → Bool) (σ τ : cv_St) (j : Nat) : Prop := (∀ k, k ≠ 20 → τ k = σ k) ∧ ∀ i, i < 24 → j ≤ i / 3 → τ 20 i = nI (cv_RT L cl (8 - j) i)
def cv_CI (L : cv_L) (cl : Nat → Bool) (σ τ : cv_St) (j v : Nat) : Prop := (∀ k, k ≠ 20 → τ k = σ k) ∧ (∀ i, i < 24 → j < i / 3 → τ 20 i = nI (cv_RT L cl (7 - j) i)) ∧ ∀ i, i < 24 → i / 3 = j → i % 3 < v → τ 20 i = nI (cv_rv L cl (cv_RT L cl (7 - j)) (i % 3) j)
theorem cv_CO_0 (L : cv_L) (cl : Nat → Bool) (σ : cv_St) : cv_CO L cl σ σ 8 := ⟨fun _ _ => rfl, fun i h1 h2 => by omega⟩
theorem cv_CI_0 {L : cv_L} {cl : Nat → Bool} {σ τ : cv_St} {j : Nat} (h : cv_CO L cl σ τ (j + 1)) : cv_CI L cl σ τ j 0 := ⟨h.1, fun i h1 h2 => by
  have := h.2 i h1 h2
  rwa [show 8 - (j + 1) = 7 - j by omega] at this, fun i _ _ h => by omega⟩
theorem cv_CI_s {L : cv_L} {cl : Nat → Bool} {σ τ : cv_St} {j v : Nat} (h : cv_CI L cl σ τ j v) (hv : v < 3) (hj : j < 8) : cv_CI L cl σ (cv_u τ 20 (j * 3 + v) (nI (cv_rv L cl (cv_RT L cl (7 - j)) v j))) j (v + 1) := by
  refine ⟨fun k hk => by rw [cv_u_c hk]; exact h.1 k hk, fun i h1 h2 => by rw [cv_u_i (by omega)]; exact h.2.1 i h1 h2, fun i h1 h2 h3 => ?_⟩
  by_cases e : i = j * 3 + v
  · subst e
    rw [cv_u_s, show (j * 3 + v) % 3 = v by omega]
  · rw [cv_u_i e]
    exact h.2.2 i h1 h2 (by omega)
theorem cv_CO_s {L : cv_L} {cl : Nat → Bool} {σ τ : cv_St} {j : Nat} (h : cv_CI L cl σ τ j 3) (hj : j < 8) : cv_CO L cl σ τ j := by
  refine ⟨h.1, fun i h1 h2 => ?_⟩
  rw [show 8 - j = (7 - j) + 1 by omega]
  simp only [cv_RT]
  rw [show 7 - (7 - j) = j by omega]
  by_cases e : i / 3 = j
  · rw [if_pos e]
    exact h.2.2 i h1 e (by omega)
  · rw [if_neg e]
    exact h.2.1 i h1 (by omega)
theorem cv_rl_lt {L : cv_L} {cl : Nat → Bool} {f : Nat → Nat} {v d i0 : Nat} (hf : ∀ j, f j < 2 ^ 24) (h0 : i0 < 2 ^ 24) : ∀ k, cv_rl L cl f v d i0 k < 2 ^ 24
  | 0 => h0
  | k + 1 => by
    have h1 : cv_rc L cl f v d k < 2 ^ 24 := by
      unfold cv_rc
      split
      · decide
      · split
        · decide
        · exact hf _
    exact Nat.or_lt_two_pow (cv_rl_lt hf h0 k) h1
theorem cv_RT_lt (L : cv_L) (cl : Nat → Bool) : ∀ k j, cv_RT L cl k j < 2 ^ 24
  | 0, j => by simp [cv_RT]
  | k + 1, j => by
    simp only [cv_RT]
    split
    · have hp : 2 ^ (8 * (j % 3) + (7 - k)) < 2 ^ 24 := Nat.pow_lt_pow_right (by decide) (by omega)
      refine cv_rl_lt (cv_RT_lt L cl k) ?_ _
      split
      · exact Nat.or_lt_two_pow hp (cv_RT_lt L cl k _)
      · exact hp
    · exact cv_RT_lt L cl k j
theorem cv_TC_of {L : cv_L} {cl : Nat → Bool} {σ τ : cv_St} (h : cv_CO L cl σ τ 0) : cv_TC (cv_RT L cl 8) τ := fun j hj => ⟨h.2 j hj (Nat.zero_le _), Nat.lt_trans (cv_RT_lt L cl 8 j) (by decide)⟩
/-- sets, counted -/
def cv_cnt (P : Nat → Bool) : Nat → Nat
  | 0 => 0
  | n + 1 => cv_cnt P n + (if P n = true then 1 else 0)
theorem cv_cnt_le (P : Nat → Bool) : ∀ n, cv_cnt P n ≤ n
  | 0 => Nat.le_refl 0
  | n + 1 => by
    have := cv_cnt_le P n
    simp only [cv_cnt]
    split <;> omega
def cv_clr (g k : Nat) : Nat := g &&& (2 ^ k ^^^ 4294967295)
theorem cv_clr_le (g k : Nat) : cv_clr g k ≤ g := Nat.and_le_left
theorem cv_clrN (g k : Nat) : nI g &&& (nI (2 ^ k) ^^^ -1) = nI (cv_clr g k) := by
  rw [show (-1 : Int32) = nI 4294967295 by decide, cv_xorN, cv_andN]; rfl
/-- all below n -/
def cv_al (P : Nat → Bool) (n : Nat) : Bool := (List.range n).all P
theorem cv_al_t {P : Nat → Bool} {n : Nat} (h : ∀ k, k < n → P k = true) : cv_al P n = true := List.all_eq_true.mpr (fun k hk => h k (List.mem_range.mp hk))
theorem cv_al_f {P : Nat → Bool} {n k : Nat} (hk : k < n) (h : P k = false) : cv_al P n = false := by
  rw [cv_al, List.all_eq_false]
  exact ⟨k, List.mem_range.mpr hk, by simp [h]⟩
theorem cv_al_iff {P : Nat → Bool} {n : Nat} : cv_al P n = true ↔ ∀ k, k < n → P k = true := by
  rw [cv_al, List.all_eq_true]
  exact ⟨fun h k hk => h k (List.mem_range.mpr hk), fun h k hk => h k (List.mem_range.mp hk)⟩
theorem cv_ex {P : Nat → Prop} {i : Nat} (h : ∀ q, q < i → P q) (hi : P i) : ∀ q, q < i + 1 → P q := fun q hq => by
  rcases Nat.lt_succ_iff_lt_or_eq.mp hq with h1 | h1
  · exact h q h1
  · rw [h1]; exact hi
theorem cv_o_inj {a b : Option Nat} (ha : ∀ z, a = some z → z < 2 ^ 31) (hb : ∀ z, b = some z → z < 2 ^ 31) (h : cv_o a = cv_o b) : a = b := by
  cases a with
  | none => exact ((cv_o_none hb).mp h.symm).symm
  | some x =>
    cases b with
    | none => exact (cv_o_none ha).mp h
    | some y => rw [(nI_eq (ha x rfl) (hb y rfl)).mp h]
/-- fewer of two, either perhaps none -/
def cv_mn : Option Nat → Option Nat → Option Nat
  | none, b => b
  | a, none => a
  | some a, some b => some (min a b)
def cv_h0 (g : Nat → Option Nat) (d s v : Nat) : Option Nat := if d < 7 then (g (((d + 1) * 2 + s) * 3 + v)).map (· + 1) else none
def cv_h1 (L : cv_L) (g : Nat → Option Nat) (d s v : Nat) : Option Nat := if s = 0 ∧ v = 1 ∧ (L 6 1).testBit d = true then cv_mn (cv_h0 g d s v) (g ((d * 2 + 1) * 3 + v)) else cv_h0 g d s v
def cv_hc (L : cv_L) (g : Nat → Option Nat) (d s v p : Nat) : Option Nat := match cv_ar L p v d with
  | none => none
  | some c => g ((c * 2 + s) * 3 + (cv_oe L p v).getD 0)
def cv_hl (L : cv_L) (g : Nat → Option Nat) (d s v : Nat) : Nat → Option Nat
  | 0 => cv_h1 L g d s v
  | k + 1 => cv_mn (cv_hl L g d s v k) (cv_hc L g d s v k)
/-- the fewest days that one still waits, by later ones' -/
def cv_hf (L : cv_L) (g : Nat → Option Nat) (d s v : Nat) : Option Nat := if s = 1 ∧ v = 2 ∧ (L 6 2).testBit d = true then some 0 else cv_hl L g d s v (L 7 0)
theorem cv_mn_le {a b : Option Nat} {n : Nat} (ha : ∀ z, a = some z → z ≤ n) (hb : ∀ z, b = some z → z ≤ n) : ∀ z, cv_mn a b = some z → z ≤ n := by
  intro z h
  cases a with
  | none => exact hb z h
  | some x =>
    cases b with
    | none => exact ha z h
    | some y =>
      have h1 := ha x rfl
      have h2 := hb y rfl
      simp only [cv_mn, Option.some.injEq] at h
      omega
theorem cv_h0_le {g : Nat → Option Nat} (hz : ∀ j z, g j = some z → z ≤ 7 - j / 6) {d s v z : Nat} (hs : s < 2) (hv : v < 3) (h : cv_h0 g d s v = some z) : z ≤ 7 - d := by
  unfold cv_h0 at h
  split at h
  · cases h1 : g (((d + 1) * 2 + s) * 3 + v) with
    | none => rw [h1] at h; cases h
    | some y =>
      rw [h1] at h
      have := hz _ _ h1
      simp only [Option.map_some, Option.some.injEq] at h
      omega
  · cases h
theorem cv_h1_le {L : cv_L} {g : Nat → Option Nat} (hz : ∀ j z, g j = some z → z ≤ 7 - j / 6) {d s v : Nat} (hs : s < 2) (hv : v < 3) : ∀ z, cv_h1 L g d s v = some z → z ≤ 7 - d := by
  intro z h
  unfold cv_h1 at h
  split at h
  · refine cv_mn_le (fun z h => cv_h0_le hz hs hv h) (fun z h => ?_) z h
    have := hz _ _ h
    omega
  · exact cv_h0_le hz hs hv h
theorem cv_hl_le {L : cv_L} (hB : cv_LB L) {g : Nat → Option Nat} (hz : ∀ j z, g j = some z → z ≤ 7 - j / 6) {d s v : Nat} (hs : s < 2) (hv : v < 3) : ∀ k, k ≤ L 7 0 → ∀ z, cv_hl L g d s v k = some z → z ≤ 7 - d
  | 0, _, z, h => cv_h1_le hz hs hv z h
  | k + 1, hk, z, h => by
    refine cv_mn_le (cv_hl_le hB hz hs hv k (by omega)) (fun z h => ?_) z h
    unfold cv_hc at h
    split at h
    · cases h
    · rename_i c hc
      have h1 := hz _ _ h
      have h2 := cv_ar_gt hB (by omega) hc
      cases ho : cv_oe L k v with
      | none => rw [ho] at h1; simp only [Option.getD_none] at h1; omega
      | some q =>
        rw [ho] at h1
        have h3 := cv_oe_le hB (by omega) ho
        simp only [Option.getD_some] at h1
        omega
theorem cv_hf_le {L : cv_L} (hB : cv_LB L) {g : Nat → Option Nat} (hz : ∀ j z, g j = some z → z ≤ 7 - j / 6) {d s v : Nat} (hs : s < 2) (hv : v < 3) {z : Nat} (h : cv_hf L g d s v = some z) : z ≤ 7 - d := by
  unfold cv_hf at h
  split at h
  · cases h; omega
  · exact cv_hl_le hB hz hs hv _ (Nat.le_refl _) z h
/-- the readings -/
def cv_DB (rc : Nat) (rd : Nat → Nat) (rn : Nat → Option Nat) : Prop := rc ≤ 8 ∧ ∀ k, k < rc → rd k < 8 ∧ ∀ z, rn k = some z → z < 8
def cv_DC (rc : Nat) (rd : Nat → Nat) (rn : Nat → Option Nat) (σ : cv_St) : Prop := σ 23 2 = nI rc ∧ ∀ k, k < rc → σ 24 k = nI (rd k) ∧ σ 25 k = cv_o (rn k)
/-- all readings are so, by a way f to tell the day of being done -/
def cv_ho (f : Nat → Option Nat) (rc : Nat) (rd : Nat → Nat) (rn : Nat → Option Nat) : Bool := cv_al (fun k => decide (f (rd k) = rn k)) rc
/-- a day's row with rennet, over the later days' rows g -/
def cv_F1 (L : cv_L) (g : Nat → Option Nat) (d : Nat) : Nat → Option Nat := fun i => if i / 6 = d ∧ i / 3 % 2 = 1 then cv_hf L g d 1 (i % 3) else g i
def cv_F0 (L : cv_L) (g : Nat → Option Nat) (d : Nat) : Nat → Option Nat := fun i => if i / 6 = d ∧ i / 3 % 2 = 0 then cv_hf L g d 0 (i % 3) else g i
def cv_FT (L : cv_L) : Nat → Nat → Option Nat
  | 0 => fun _ => none
  | k + 1 => cv_F0 L (cv_F1 L (cv_FT L k) (7 - k)) (7 - k)
def cv_fh (L : cv_L) (m : Nat) : Option Nat := if (L 6 0).testBit m = true then cv_FT L (8 - m) ((m * 2 + 0) * 3 + 0) else none
theorem cv_F1_z {L : cv_L} (hB : cv_LB L) {g : Nat → Option Nat} (hz : ∀ j z, g j = some z → z ≤ 7 - j / 6) (d : Nat) : ∀ j z, cv_F1 L g d j = some z → z ≤ 7 - j / 6 := by
  intro j z h
  unfold cv_F1 at h
  split at h
  · rename_i hc
    rw [hc.1]
    exact cv_hf_le hB hz (by decide) (by omega) h
  · exact hz j z h
theorem cv_F0_z {L : cv_L} (hB : cv_LB L) {g : Nat → Option Nat} (hz : ∀ j z, g j = some z → z ≤ 7 - j / 6) (d : Nat) : ∀ j z, cv_F0 L g d j = some z → z ≤ 7 - j / 6 := by
  intro j z h
  unfold cv_F0 at h
  split at h
  · rename_i hc
    rw [hc.1]
    exact cv_hf_le hB hz (by decide) (by omega) h
  · exact hz j z h
theorem cv_FT_z {L : cv_L} (hB : cv_LB L) : ∀ k j z, cv_FT L k j = some z → z ≤ 7 - j / 6
  | 0, j, z, h => by cases h
  | k + 1, j, z, h => cv_F0_z hB (cv_F1_z hB (cv_FT_z hB k) _) _ j z h
def cv_HO (L : cv_L) (σ τ : cv_St) (j : Nat) : Prop := (∀ k, k ≠ 21 → τ k = σ k) ∧ ∀ i, i < 48 → j ≤ i / 6 → τ 21 i = cv_o (cv_FT L (8 - j) i)
def cv_HI (L : cv_L) (g : Nat → Option Nat) (σ τ : cv_St) (j s v : Nat) : Prop := (∀ k, k ≠ 21 → τ k = σ k) ∧ (∀ i, i < 48 → (j < i / 6 ∨ (s = 0 ∧ i / 6 = j ∧ i / 3 % 2 = 1)) → τ 21 i = cv_o (g i)) ∧ ∀ i, i < 48 → i / 6 = j → i / 3 % 2 = s → i % 3 < v → τ 21 i = cv_o (cv_hf L g j s (i % 3))
theorem cv_HO_0 (L : cv_L) (σ : cv_St) : cv_HO L σ σ 8 := ⟨fun _ _ => rfl, fun i h1 h2 => by omega⟩
theorem cv_HI_1 {L : cv_L} {σ τ : cv_St} {j : Nat} (h : cv_HO L σ τ (j + 1)) : cv_HI L (cv_FT L (7 - j)) σ τ j 1 0 := ⟨h.1, fun i h1 h2 => by
  have h3 : j + 1 ≤ i / 6 := by omega
  have := h.2 i h1 h3
  rwa [show 8 - (j + 1) = 7 - j by omega] at this, fun i _ _ _ h => by omega⟩
theorem cv_HI_s {L : cv_L} {g : Nat → Option Nat} {σ τ : cv_St} {j s v : Nat} (h : cv_HI L g σ τ j s v) (hs : s < 2) (hv : v < 3) : cv_HI L g σ (cv_u τ 21 ((j * 2 + s) * 3 + v) (cv_o (cv_hf L g j s v))) j s (v + 1) := by
  refine ⟨fun k hk => by rw [cv_u_c hk]; exact h.1 k hk, fun i h1 h2 => by rw [cv_u_i (by omega)]; exact h.2.1 i h1 h2, fun i h1 h2 h3 h4 => ?_⟩
  by_cases e : i = (j * 2 + s) * 3 + v
  · subst e
    rw [cv_u_s, show ((j * 2 + s) * 3 + v) % 3 = v by omega]
  · rw [cv_u_i e]
    exact h.2.2 i h1 h2 h3 (by omega)
theorem cv_HI_0 {L : cv_L} {g : Nat → Option Nat} {σ τ : cv_St} {j : Nat} (h : cv_HI L g σ τ j 1 3) : cv_HI L (cv_F1 L g j) σ τ j 0 0 := by
  refine ⟨h.1, fun i h1 h2 => ?_, fun i _ _ _ h => by omega⟩
  unfold cv_F1
  by_cases e : i / 6 = j ∧ i / 3 % 2 = 1
  · rw [if_pos e]
    exact h.2.2 i h1 e.1 e.2 (by omega)
  · rw [if_neg e]
    exact h.2.1 i h1 (by omega)
theorem cv_HO_s {L : cv_L} {σ τ : cv_St} {j : Nat} (hj : j < 8) (h : cv_HI L (cv_F1 L (cv_FT L (7 - j)) j) σ τ j 0 3) : cv_HO L σ τ j := by
  refine ⟨h.1, fun i h1 h2 => ?_⟩
  rw [show 8 - j = (7 - j) + 1 by omega]
  simp only [cv_FT]
  rw [show 7 - (7 - j) = j by omega]
  unfold cv_F0
  by_cases e : i / 6 = j ∧ i / 3 % 2 = 0
  · rw [if_pos e]
    exact h.2.2 i h1 e.1 e.2 (by omega)
  · rw [if_neg e]
    exact h.2.1 i h1 (by omega)
theorem cv_dn_lt {m : Nat} (h : m < 2 ^ 31) : cv_dn m < nI m := by
  cases m with
  | zero => decide
  | succ j => exact nI_lt (Nat.lt_succ_self j) h
theorem cv_m9_lt {n : Nat} (h : n < 2 ^ 31) : (-9 : Int32) < nI n := by
  rw [Int32.lt_iff_toInt_lt, nI_toInt h]
  have : (-9 : Int32).toInt = -9 := by decide
  omega
