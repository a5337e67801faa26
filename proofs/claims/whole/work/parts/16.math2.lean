/-! ===== a wheel on a way; sheets ===== -/
abbrev cv_Q : Type := Nat × Nat × Nat × Nat
/-- one step: day, valley, stage, holes -/
def cv_st (L : cv_L) (x : Nat) (q : cv_Q) : Option cv_Q :=
  if q.2.2.1 = 2 then none else if x = 6 then (if q.1 < 7 then some (q.1 + 1, q.2.1, q.2.2.1, q.2.2.2 + 1) else none)
  else if x = 7 then (if q.2.1 = 1 ∧ q.2.2.1 = 0 ∧ (L 6 1).testBit q.1 = true then some (q.1, q.2.1, 1, q.2.2.2) else none)
  else if x = 8 then (if q.2.1 = 2 ∧ q.2.2.1 = 1 ∧ (L 6 2).testBit q.1 = true then some (q.1, q.2.1, 2, q.2.2.2) else none)
  else match cv_ar L x q.2.1 q.1 with
    | none => none
    | some c => some (c, (cv_oe L x q.2.1).getD 0, q.2.2.1, q.2.2.2)
def cv_WB (q : cv_Q) : Prop := q.1 < 8 ∧ q.2.1 < 3 ∧ q.2.2.1 < 3 ∧ q.2.2.2 ≤ q.1
def cv_WC (q : cv_Q) (σ : cv_St) : Prop := σ 22 0 = nI q.1 ∧ σ 22 1 = nI q.2.1 ∧ σ 22 2 = nI q.2.2.1 ∧ σ 22 3 = nI q.2.2.2
theorem cv_ar_oe {L : cv_L} {p v d c : Nat} (h : cv_ar L p v d = some c) : ∃ q, cv_oe L p v = some q := by
  cases ho : cv_oe L p v with
  | some q => exact ⟨q, rfl⟩
  | none => exact absurd h (by simp [cv_ar, ho])
theorem cv_st_b {L : cv_L} (hB : cv_LB L) {x : Nat} {q q' : cv_Q} (hq : cv_WB q) (hx : x < 6 → x < L 7 0) (hx9 : x ≤ 8) (h : cv_st L x q = some q') : cv_WB q' := by
  obtain ⟨h1, h2, h3, h4⟩ := hq
  unfold cv_st at h
  split at h
  · cases h
  split at h
  · split at h
    · cases h; exact ⟨by dsimp only; omega, h2, h3, by dsimp only; omega⟩
    · cases h
  split at h
  · split at h
    · cases h; exact ⟨h1, h2, (by decide : (1 : Nat) < 3), h4⟩
    · cases h
  split at h
  · split at h
    · cases h; exact ⟨h1, h2, (by decide : (2 : Nat) < 3), h4⟩
    · cases h
  split at h
  · cases h
  · rename_i c hc
    cases h
    have hp : x < L 7 0 := hx (by omega)
    obtain ⟨z, hz⟩ := cv_ar_oe hc
    have := cv_ar_le hc
    have := cv_ar_gt hB hp hc
    have := cv_oe_le hB hp hz
    refine ⟨by dsimp only; omega, ?_, h3, by dsimp only; omega⟩
    rw [hz]
    dsimp only [Option.getD]
    omega
theorem cv_m1 {n : Nat} (h : n < 2 ^ 31) : ¬ nI n = -1 := by
  intro e
  have h1 := congrArg Int32.toInt e
  rw [nI_toInt h] at h1
  have h2 : (-1 : Int32).toInt = -1 := by decide
  omega
/-- one sheet: nothing, or a lane and how many cells -/
def cv_S1 (o : Option (Nat × Nat)) (f : Nat → Int32) : Prop := match o with
  | none => f 1 = -1
  | some q => f 1 = nI q.1 ∧ f 2 = nI q.2 ∧ q.1 < 3 ∧ q.2 ≤ 60
/-- are cells y .. y + z - 1 there, of m -/
def cv_hs (m : Nat) (y z : Int32) : Bool := decide (¬ y < 0 ∧ ¬ z < 0 ∧ y ≤ nI m ∧ z ≤ nI m - y)
def cv_fo (o : Option (Nat × Nat)) (x y z : Int32) : Nat := match o with
  | none => 1
  | some q => if nI q.1 = x then (if z < 0 then 4 else if cv_hs q.2 y z = true then 0 else 3) else 2
def cv_ct (l : Nat) (v : Int32) : Int32 := if l = 0 then v.toInt8.toInt32 else if l = 1 then v.toInt16.toInt32 else v
theorem cv_hs_of {m : Nat} {y z : Int32} (hm : m ≤ 60) (h : cv_hs m y z = true) : ∃ i j : Nat, y = nI i ∧ z = nI j ∧ i + j ≤ m := by
  obtain ⟨h1, h2, h3, h4⟩ := of_decide_eq_true h
  obtain ⟨i, hi, rfl⟩ := nI_of h1
  obtain ⟨j, hj, rfl⟩ := nI_of h2
  have hi2 := (nI_leI hi (by omega)).mp h3
  rw [pk_sub hi2] at h4
  have := (nI_leI hj (by omega)).mp h4
  exact ⟨i, j, rfl, rfl, by omega⟩
theorem cv_hs_in {m i j : Nat} (hm : m ≤ 60) (h : i + j ≤ m) : cv_hs m (nI i) (nI j) = true := by
  refine decide_eq_true ⟨nI_pos (by omega), nI_pos (by omega), nI_le (by omega) (by omega), ?_⟩
  rw [pk_sub (by omega)]
  exact nI_le (by omega) (by omega)
theorem cv_fo_0 {o : Option (Nat × Nat)} {x y z : Int32} (h : cv_fo o x y z = 0) : ∃ q, o = some q ∧ nI q.1 = x ∧ cv_hs q.2 y z = true := by
  cases o with
  | none => cases h
  | some q =>
    simp only [cv_fo] at h
    split at h
    · split at h
      · cases h
      · split at h
        · exact ⟨q, rfl, by assumption, by assumption⟩
        · cases h
    · cases h
theorem cv_fo_le (o : Option (Nat × Nat)) (x y z : Int32) : cv_fo o x y z ≤ 4 := by
  cases o with
  | none => exact (by decide : (1 : Nat) ≤ 4)
  | some q =>
    simp only [cv_fo]
    split
    · split
      · decide
      · split <;> decide
    · decide
