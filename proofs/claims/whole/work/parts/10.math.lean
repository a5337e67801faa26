/-! ===== what the class reckons, by numbers ===== -/
/-- a pass's share of a valley's reach on a day -/
def cv_rc (L : cv_L) (cl : Nat → Bool) (f : Nat → Nat) (v d p : Nat) : Nat := if cl p = true then 0 else match cv_ar L p v d with
  | none => 0
  | some c => f (c * 3 + (cv_oe L p v).getD 0)
def cv_rl (L : cv_L) (cl : Nat → Bool) (f : Nat → Nat) (v d i0 : Nat) : Nat → Nat
  | 0 => i0
  | k + 1 => cv_rl L cl f v d i0 k ||| cv_rc L cl f v d k
/-- how a valley's reach on a day is made of the later ones -/
def cv_rv (L : cv_L) (cl : Nat → Bool) (f : Nat → Nat) (v d : Nat) : Nat := cv_rl L cl f v d (if d < 7 then 2 ^ (8 * v + d) ||| f ((d + 1) * 3 + v) else 2 ^ (8 * v + d)) (L 7 0)
/-- the chart behind k days, from day 7 on down -/
def cv_RT (L : cv_L) (cl : Nat → Bool) : Nat → Nat → Nat
  | 0 => fun _ => 0
  | k + 1 => fun j => if j / 3 = 7 - k then cv_rv L cl (cv_RT L cl k) (j % 3) (7 - k) else cv_RT L cl k j
/-- the first day of a set -/
def cv_fd (t : Nat) : Option Nat := (List.range 8).find? (fun i => t.testBit i)
theorem cv_fd_some {t k : Nat} (hk : k < 8) (h : t.testBit k = true) (h0 : ∀ i, i < k → t.testBit i = false) : cv_fd t = some k := by
  unfold cv_fd
  rw [List.find?_range_eq_some]
  exact ⟨h, List.mem_range.mpr hk, fun j hj => by simp [h0 j hj]⟩
theorem cv_fd_none {t : Nat} (h : ∀ i, i < 8 → t.testBit i = false) : cv_fd t = none := by
  unfold cv_fd
  rw [List.find?_eq_none]
  intro x hx
  simp [h x (List.mem_range.mp hx)]
theorem cv_fd_lt {t k : Nat} (h : cv_fd t = some k) : k < 8 := by
  unfold cv_fd at h
  exact List.mem_range.mp (List.mem_of_find?_eq_some h)
def cv_fi (f : Nat → Nat) (w v d t : Nat) : Option Nat := cv_fd (f (d * 3 + v) / 2 ^ (8 * w) &&& t)
/-- the day of being done, by a chart f, of milk of day d (days of milk g), with days r of rennet and t of salt -/
def cv_dw (f : Nat → Nat) (g d r t : Nat) : Option Nat := if g.testBit d = true then (match cv_fi f 1 0 d r with
  | none => none
  | some x => cv_fi f 2 1 x t) else none
theorem cv_fi_lt {f : Nat → Nat} {w v d t z : Nat} (h : cv_fi f w v d t = some z) : z < 8 := cv_fd_lt h
theorem cv_dw_lt {f : Nat → Nat} {g d r t z : Nat} (h : cv_dw f g d r t = some z) : z < 8 := by
  unfold cv_dw at h
  split at h
  · split at h
    · cases h
    · exact cv_fi_lt h
  · cases h
def cv_by (o : Option Nat) (fair : Nat) : Bool := match o with
  | none => false
  | some z => decide (z ≤ fair)
/-- a chart that the row 20 holds -/
def cv_TC (f : Nat → Nat) (σ : cv_St) : Prop := ∀ j, j < 24 → σ 20 j = nI (f j) ∧ f j < 2 ^ 31
