/-! ===== texts ===== -/
/-- a code is a digit lo .. hi -/
def cv_dg (c : Int32) (lo hi : Nat) : Bool := decide (nI lo ≤ c - nI 48 ∧ c - nI 48 ≤ nI hi)
theorem cv_dg_of {c : Int32} {lo hi : Nat} (hh : hi ≤ 9) (h : cv_dg c lo hi = true) (hl : lo ≤ 9) : ∃ e, lo ≤ e ∧ e ≤ hi ∧ c - nI 48 = nI e := by
  obtain ⟨h1, h2⟩ := of_decide_eq_true h
  have h3 : ¬ c - nI 48 < 0 := fun e => by
    have h4 : nI lo < 0 := Int32.lt_of_le_of_lt h1 e
    exact nI_pos (by omega) h4
  obtain ⟨e, he, q⟩ := nI_of h3
  rw [q] at h1 h2
  exact ⟨e, (nI_leI (by omega) he).mp h1, (nI_leI he (by omega)).mp h2, q⟩
def cv_kd (c : Int32) : Option Nat := if c = nI 112 then some 0 else if c = nI 115 then some 1 else if c = nI 116 then some 2 else none
def cv_gg (g : Nat → Int32) (p q : Nat) : Bool := if q = 0 then decide (g p = nI 59) else if q = 1 then cv_dg (g p) 0 2 else if q = 2 then cv_dg (g p) 0 (if g (p - 1) - nI 48 = nI 2 then 5 else 9) else cv_dg (g p) 0 (if g (p - 2) - nI 48 = nI 2 ∧ g (p - 1) - nI 48 = nI 5 then 5 else 9)
def cv_pg (g : Nat → Int32) (p q : Nat) : Bool := if q = 0 then decide (g p = nI 44) else if q = 1 then (cv_kd (g p)).isSome else if q = 2 then cv_dg (g p) 0 2 else if q = 3 then cv_dg (g p) 0 2 && decide (¬ g p = g (p - 1)) else if q = 4 then cv_dg (g p) 1 3 else cv_dg (g p) 0 9
/-- the text goes on at place p -/
def cv_go (g : Nat → Int32) (p : Nat) : Bool := if p = 0 then decide (g p = nI 118) else if p < 9 then cv_dg (g p) 0 9 else if p < 21 then cv_gg g p ((p - 9) % 4) else decide (p < 57) && cv_pg g p ((p - 21) % 6)
/-- the first fault: none, if it is whole -/
def cv_ff (g : Nat → Int32) (n : Nat) : Option Nat := match (List.range n).find? (fun p => !cv_go g p) with
  | some p => some p
  | none => if 21 < n ∧ (n - 21) % 6 = 0 then none else some n
theorem cv_ff_some {g : Nat → Int32} {n k : Nat} (hk : k < n) (h : cv_go g k = false) (h0 : ∀ i, i < k → cv_go g i = true) : cv_ff g n = some k := by
  unfold cv_ff
  have : (List.range n).find? (fun p => !cv_go g p) = some k := by
    rw [List.find?_range_eq_some]
    exact ⟨by simp [h], List.mem_range.mpr hk, fun j hj => by simp [h0 j hj]⟩
  rw [this]
theorem cv_ff_all {g : Nat → Int32} {n : Nat} (h0 : ∀ i, i < n → cv_go g i = true) : cv_ff g n = if 21 < n ∧ (n - 21) % 6 = 0 then none else some n := by
  unfold cv_ff
  have : (List.range n).find? (fun p => !cv_go g p) = none := by
    rw [List.find?_eq_none]
    intro x hx
    simp [h0 x (List.mem_range.mp hx)]
  rw [this]
theorem cv_ff_lt {g : Nat → Int32} {n z : Nat} (h : cv_ff g n = some z) : z ≤ n := by
  unfold cv_ff at h
  split at h
  · rename_i p hp
    cases h
    exact Nat.le_of_lt (List.mem_range.mp (List.mem_of_find?_eq_some hp))
  · split at h
    · cases h
    · cases h; exact Nat.le_refl _
theorem cv_ff_none {g : Nat → Int32} {n : Nat} (h : cv_ff g n = none) : (∀ i, i < n → cv_go g i = true) ∧ 21 < n ∧ (n - 21) % 6 = 0 := by
  unfold cv_ff at h
  split at h
  · cases h
  · rename_i hp
    rw [List.find?_eq_none] at hp
    split at h
    · rename_i hc
      exact ⟨fun i hi => by simpa using hp i (List.mem_range.mpr hi), hc⟩
    · cases h
abbrev cv_dt (g : Nat → Int32) (p : Nat) : Nat := (g p - nI 48).toNatClampNeg
/-- the land of a text -/
def cv_tl (g : Nat → Int32) (n : Nat) : cv_L := fun k i => match k with
  | 0 => (cv_kd (g (21 + 6 * i + 1))).getD 0
  | 1 => cv_dt g (21 + 6 * i + 2)
  | 2 => cv_dt g (21 + 6 * i + 3)
  | 3 => cv_dt g (21 + 6 * i + 4)
  | 4 => cv_dt g (21 + 6 * i + 5)
  | 5 => cv_dt g (1 + i)
  | 6 => cv_dt g (9 + 4 * i + 1) * 100 + cv_dt g (9 + 4 * i + 2) * 10 + cv_dt g (9 + 4 * i + 3)
  | _ => (n - 21) / 6
/-- what a whole text's places hold -/
theorem cv_dt_of {g : Nat → Int32} {p lo hi : Nat} (hh : hi ≤ 9) (hl : lo ≤ 9) (h : cv_dg (g p) lo hi = true) : g p - nI 48 = nI (cv_dt g p) ∧ lo ≤ cv_dt g p ∧ cv_dt g p ≤ hi := by
  obtain ⟨e, h1, h2, h3⟩ := cv_dg_of hh h hl
  have : cv_dt g p = e := by rw [cv_dt, h3, nI_clamp (by omega)]
  rw [this]
  exact ⟨h3, h1, h2⟩
theorem cv_w_snow {g : Nat → Int32} {n : Nat} (h : ∀ i, i < n → cv_go g i = true) (hn : 21 < n) {d : Nat} (hd : d < 8) : g (1 + d) - nI 48 = nI (cv_tl g n 5 d) ∧ cv_tl g n 5 d ≤ 9 := by
  have h1 := h (1 + d) (by omega)
  unfold cv_go at h1
  rw [if_neg (by omega), if_pos (by omega)] at h1
  have := cv_dt_of (by decide) (by decide) h1
  exact ⟨this.1, this.2.2⟩
theorem cv_gg_of {g : Nat → Int32} {n : Nat} (h : ∀ i, i < n → cv_go g i = true) (hn : 21 < n) {v : Nat} (hv : v < 3) {q : Nat} (hq : q < 4) : cv_gg g (9 + 4 * v + q) q = true := by
  have h1 := h (9 + 4 * v + q) (by omega)
  unfold cv_go at h1
  rw [if_neg (by omega), if_neg (by omega), if_pos (by omega), show (9 + 4 * v + q - 9) % 4 = q by omega] at h1
  exact h1
theorem cv_w_give {g : Nat → Int32} {n : Nat} (h : ∀ i, i < n → cv_go g i = true) (hn : 21 < n) {v : Nat} (hv : v < 3) : (g (9 + 4 * v + 1) - nI 48 = nI (cv_dt g (9 + 4 * v + 1)) ∧ g (9 + 4 * v + 2) - nI 48 = nI (cv_dt g (9 + 4 * v + 2)) ∧ g (9 + 4 * v + 3) - nI 48 = nI (cv_dt g (9 + 4 * v + 3))) ∧ cv_tl g n 6 v < 256 := by
  have h1 := cv_gg_of h hn hv (q := 1) (by decide)
  have h2 := cv_gg_of h hn hv (q := 2) (by decide)
  have h3 := cv_gg_of h hn hv (q := 3) (by decide)
  unfold cv_gg at h1 h2 h3
  rw [if_neg (by decide), if_pos rfl] at h1
  rw [if_neg (by decide), if_neg (by decide), if_pos rfl, show 9 + 4 * v + 2 - 1 = 9 + 4 * v + 1 by omega] at h2
  rw [if_neg (by decide), if_neg (by decide), if_neg (by decide), show 9 + 4 * v + 3 - 2 = 9 + 4 * v + 1 by omega, show 9 + 4 * v + 3 - 1 = 9 + 4 * v + 2 by omega] at h3
  obtain ⟨a1, a2, a3⟩ := cv_dt_of (by decide) (by decide) h1
  have hb2 : (if g (9 + 4 * v + 1) - nI 48 = nI 2 then 5 else 9) ≤ 9 := by split <;> decide
  obtain ⟨b1, b2, b3⟩ := cv_dt_of hb2 (by decide) h2
  have hb3 : (if g (9 + 4 * v + 1) - nI 48 = nI 2 ∧ g (9 + 4 * v + 2) - nI 48 = nI 5 then 5 else 9) ≤ 9 := by split <;> decide
  obtain ⟨c1, c2, c3⟩ := cv_dt_of hb3 (by decide) h3
  refine ⟨⟨a1, b1, c1⟩, ?_⟩
  show cv_dt g (9 + 4 * v + 1) * 100 + cv_dt g (9 + 4 * v + 2) * 10 + cv_dt g (9 + 4 * v + 3) < 256
  rw [a1] at b3 c3
  rw [b1] at c3
  by_cases e : cv_dt g (9 + 4 * v + 1) = 2
  · rw [e] at b3 c3 ⊢
    rw [if_pos rfl] at b3
    by_cases e2 : cv_dt g (9 + 4 * v + 2) = 5
    · rw [e2] at c3 ⊢
      rw [if_pos ⟨rfl, rfl⟩] at c3
      omega
    · have : cv_dt g (9 + 4 * v + 3) ≤ 9 := Nat.le_trans c3 (by split <;> decide)
      omega
  · have h9 : cv_dt g (9 + 4 * v + 2) ≤ 9 := Nat.le_trans b3 (by split <;> decide)
    have h8 : cv_dt g (9 + 4 * v + 3) ≤ 9 := Nat.le_trans c3 (by split <;> decide)
    omega
theorem cv_pg_of {g : Nat → Int32} {n : Nat} (h : ∀ i, i < n → cv_go g i = true) {p q : Nat} (hp : p < (n - 21) / 6) (hq : q < 6) : cv_pg g (21 + 6 * p + q) q = true ∧ 21 + 6 * p + q < 57 := by
  have h1 := h (21 + 6 * p + q) (by omega)
  unfold cv_go at h1
  rw [if_neg (by omega), if_neg (by omega), if_neg (by omega), show (21 + 6 * p + q - 21) % 6 = q by omega, Bool.and_eq_true, decide_eq_true_eq] at h1
  exact ⟨h1.2, h1.1⟩
theorem cv_w_pass {g : Nat → Int32} {n : Nat} (h : ∀ i, i < n → cv_go g i = true) {p : Nat} (hp : p < (n - 21) / 6) : (∃ k, cv_kd (g (21 + 6 * p + 1)) = some k ∧ k ≤ 2 ∧ cv_tl g n 0 p = k) ∧ (∀ i, 1 ≤ i → i < 5 → g (21 + 6 * p + 1 + i) - nI 48 = nI (cv_tl g n i p)) ∧ cv_tl g n 1 p ≤ 2 ∧ cv_tl g n 2 p ≤ 2 ∧ (1 ≤ cv_tl g n 3 p ∧ cv_tl g n 3 p ≤ 3) ∧ cv_tl g n 4 p ≤ 9 := by
  have h1 := (cv_pg_of h hp (q := 1) (by decide)).1
  have h2 := (cv_pg_of h hp (q := 2) (by decide)).1
  have h3 := (cv_pg_of h hp (q := 3) (by decide)).1
  have h4 := (cv_pg_of h hp (q := 4) (by decide)).1
  have h5 := (cv_pg_of h hp (q := 5) (by decide)).1
  unfold cv_pg at h1 h2 h3 h4 h5
  rw [if_neg (by decide), if_pos rfl] at h1
  rw [if_neg (by decide), if_neg (by decide), if_pos rfl] at h2
  rw [if_neg (by decide), if_neg (by decide), if_neg (by decide), if_pos rfl, Bool.and_eq_true] at h3
  rw [if_neg (by decide), if_neg (by decide), if_neg (by decide), if_neg (by decide), if_pos rfl] at h4
  rw [if_neg (by decide), if_neg (by decide), if_neg (by decide), if_neg (by decide), if_neg (by decide)] at h5
  obtain ⟨a1, a2, a3⟩ := cv_dt_of (by decide) (by decide) h2
  obtain ⟨b1, b2, b3⟩ := cv_dt_of (by decide) (by decide) h3.1
  obtain ⟨c1, c2, c3⟩ := cv_dt_of (by decide) (by decide) h4
  obtain ⟨d1, d2, d3⟩ := cv_dt_of (by decide) (by decide) h5
  refine ⟨?_, fun i hi1 hi5 => ?_, a3, b3, ⟨c2, c3⟩, d3⟩
  · obtain ⟨k, hk⟩ := Option.isSome_iff_exists.mp h1
    refine ⟨k, hk, ?_, ?_⟩
    · unfold cv_kd at hk
      split at hk
      · cases hk; decide
      · split at hk
        · cases hk; decide
        · split at hk
          · cases hk; decide
          · cases hk
    · show (cv_kd (g (21 + 6 * p + 1))).getD 0 = k
      rw [hk]; rfl
  · match i, hi1, hi5 with
    | 1, _, _ => exact a1
    | 2, _, _ => exact b1
    | 3, _, _ => exact c1
    | 4, _, _ => exact d1
theorem cv_tl_B {g : Nat → Int32} {n : Nat} (h : cv_ff g n = none) : cv_LB (cv_tl g n) ∧ 0 < cv_tl g n 7 0 := by
  obtain ⟨h0, h1, h2⟩ := cv_ff_none h
  have h6 : (n - 21) / 6 ≤ 6 := by
    rcases Nat.lt_or_ge 6 ((n - 21) / 6) with e | e
    · have := (cv_pg_of h0 (p := 6) (q := 0) e (by decide)).2
      omega
    · exact e
  refine ⟨⟨h6, fun p hp => ?_, fun d hd => (cv_w_snow h0 h1 hd).2, fun v hv => (cv_w_give h0 h1 hv).2⟩, ?_⟩
  · obtain ⟨⟨k, -, hk, ek⟩, -, h3⟩ := cv_w_pass h0 (p := p) hp
    exact ⟨by rw [ek]; exact hk, h3⟩
  · show 0 < (n - 21) / 6
    omega
