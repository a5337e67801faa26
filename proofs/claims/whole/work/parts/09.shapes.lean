/-! ===== the two worlds' shapes ===== -/
def cv_shC : Nat → cv_Sh := fun k => match k with
  | 0 => .inl (6, [some 1, some 10, some 22, some 23, none, none])
  | 1 => .inr (.inr (1, [2, 3, 4, 5]))
  | 2 => .inl (3, [some 6, none, none])
  | 3 => .inl (3, [some 7, none, none])
  | 4 => .inl (3, [some 8, none, none])
  | 5 => .inl (3, [some 9, none, none])
  | 6 => .inr (.inl 60)
  | 7 => .inr (.inl 60)
  | 8 => .inr (.inl 60)
  | 9 => .inr (.inl 60)
  | 10 => .inl (0, [some 11, some 18, some 19, some 20, some 21, none, none])
  | 11 => .inr (.inr (2, [12, 13, 14, 15, 16, 17]))
  | 18 => .inr (.inl 8)
  | 19 => .inr (.inl 3)
  | 20 => .inr (.inl 24)
  | 21 => .inr (.inl 48)
  | 22 => .inl (5, [none, none, none, none])
  | 23 => .inl (2, [some 24, some 25, none])
  | 24 => .inr (.inl 8)
  | 25 => .inr (.inl 8)
  | _ => .inl (1, [none, none, none, none, none])
def cv_shT (tx : Nat) : Nat → cv_Sh := fun k => if k = 26 then .inl (4, [some tx, none, none]) else cv_shC k
def cv_shM : Nat → cv_Sh := fun k => match k with
  | 0 => .inl (7, [none, none, some 1, some 2, some 3, none, some 4, some 5, some 6, some 7, some 8, some 9, some 10, none, none, none, some 11, some 12, some 13, some 14, none, none, none, none, none, none, none, some 15, some 16])
  | 1 => .inr (.inl 4)
  | 2 => .inr (.inl 4)
  | 3 => .inr (.inl 240)
  | 4 => .inr (.inl 8)
  | 5 => .inr (.inl 3)
  | 11 => .inr (.inl 8)
  | 12 => .inr (.inl 3)
  | 13 => .inr (.inl 30)
  | 14 => .inr (.inl 48)
  | 15 => .inr (.inl 8)
  | 16 => .inr (.inl 8)
  | _ => .inr (.inl 6)
theorem cv_lt_p {p : Nat} (h : p < 6) : 12 + p < 26 := by omega
theorem cv_ltT_p {p : Nat} (h : p < 6) : 12 + p < 27 := by omega
theorem cv_lt_s {k : Nat} (h : k < 4) : 2 + k < 26 := by omega
theorem cv_lt_c {k : Nat} (h : k < 4) : 6 + k < 26 := by omega
theorem cv_shC_p {p : Nat} (h : p < 6) : cv_shC (12 + p) = .inl (1, [none, none, none, none, none]) := by
  match p, h with
  | 0, _ => rfl
  | 1, _ => rfl
  | 2, _ => rfl
  | 3, _ => rfl
  | 4, _ => rfl
  | 5, _ => rfl
theorem cv_shC_s {k : Nat} (h : k < 4) : cv_shC (2 + k) = .inl (3, [some (6 + k), none, none]) := by
  match k, h with
  | 0, _ => rfl
  | 1, _ => rfl
  | 2, _ => rfl
  | 3, _ => rfl
theorem cv_shC_c {k : Nat} (h : k < 4) : cv_shC (6 + k) = .inr (.inl 60) := by
  match k, h with
  | 0, _ => rfl
  | 1, _ => rfl
  | 2, _ => rfl
  | 3, _ => rfl
theorem cv_shT_p {tx p : Nat} (h : p < 6) : cv_shT tx (12 + p) = .inl (1, [none, none, none, none, none]) := by
  rw [cv_shT, if_neg (by omega)]; exact cv_shC_p h
/-- the text's row is one of the four sheets' -/
theorem cv_shT_tx {tx : Nat} (h : 6 ≤ tx ∧ tx < 10) : cv_shT tx tx = .inr (.inl 60) := by
  rw [cv_shT, if_neg (by omega)]
  obtain ⟨j, rfl⟩ : ∃ j, tx = 6 + j := ⟨tx - 6, by omega⟩
  exact cv_shC_c (by omega)
theorem cv_ltT_tx {tx : Nat} (h : 6 ≤ tx ∧ tx < 10) : tx < 27 := by omega
theorem cv_ix_p {p : Nat} (h : p < 6) : ([12, 13, 14, 15, 16, 17] : List Nat)[p]? = some (12 + p) := by
  match p, h with
  | 0, _ => rfl
  | 1, _ => rfl
  | 2, _ => rfl
  | 3, _ => rfl
  | 4, _ => rfl
  | 5, _ => rfl
theorem cv_ix_s {k : Nat} (h : k < 4) : ([2, 3, 4, 5] : List Nat)[k]? = some (2 + k) := by
  match k, h with
  | 0, _ => rfl
  | 1, _ => rfl
  | 2, _ => rfl
  | 3, _ => rfl
/-- x is a number below n -/
def cv_in (x : Int32) (n : Nat) : Bool := decide (¬ x < 0 ∧ x < nI n)
theorem cv_in_of {x : Int32} {n : Nat} (h : cv_in x n = true) (hn : n < 2 ^ 31) : ∃ j : Nat, j < n ∧ x = nI j := by
  obtain ⟨h1, h2⟩ := of_decide_eq_true h
  obtain ⟨j, hj, rfl⟩ := nI_of h1
  exact ⟨j, (nI_ltI hj hn).mp h2, rfl⟩
theorem cv_in_nI {j n : Nat} (hj : j < n) (hn : n < 2 ^ 31) : cv_in (nI j) n = true := by
  refine decide_eq_true ⟨nI_pos (by omega), nI_lt hj hn⟩
theorem cv_in_no {j n : Nat} (hj : n ≤ j) (hj2 : j < 2 ^ 31) : cv_in (nI j) n = false := by
  refine decide_eq_false (fun h => ?_)
  have := (nI_ltI hj2 (by omega)).mp h.2
  omega
theorem cv_in_le {x : Int32} {n : Nat} (hn : n + 1 < 2 ^ 31) : decide (nI 0 ≤ x ∧ x ≤ nI n) = cv_in x (n + 1) := by
  rw [cv_in, decide_eq_decide, nI_0]
  constructor
  · rintro ⟨h1, h2⟩
    have h3 : ¬ x < 0 := Int32.not_lt.mpr h1
    obtain ⟨j, hj, rfl⟩ := nI_of h3
    exact ⟨h3, nI_lt (by have := (nI_leI hj (by omega)).mp h2; omega) hn⟩
  · rintro ⟨h1, h2⟩
    obtain ⟨j, hj, rfl⟩ := nI_of h1
    exact ⟨Int32.not_lt.mp h1, nI_le (by have := (nI_ltI hj hn).mp h2; omega) (by omega)⟩
/-! ===== the land, by numbers: L 0 .. 4: a pass's kind, first, second, length, height; L 5 snow by days; L 6 days of giving; L 7 0 how many passes ===== -/
abbrev cv_L : Type := Nat → Nat → Nat
def cv_lu (L : cv_L) (k i v : Nat) : cv_L := fun k' i' => if k' = k ∧ i' = i then v else L k' i'
def cv_LB (L : cv_L) : Prop := L 7 0 ≤ 6 ∧ (∀ p, p < L 7 0 → L 0 p ≤ 2 ∧ L 1 p ≤ 2 ∧ L 2 p ≤ 2 ∧ (1 ≤ L 3 p ∧ L 3 p ≤ 3) ∧ L 4 p ≤ 9) ∧ (∀ d, d < 8 → L 5 d ≤ 9) ∧ ∀ v, v < 3 → L 6 v < 256
def cv_LC (L : cv_L) (σ : cv_St) : Prop := σ 10 6 = nI (L 7 0) ∧ (∀ d, d < 8 → σ 18 d = nI (L 5 d)) ∧ (∀ v, v < 3 → σ 19 v = nI (L 6 v)) ∧ ∀ p, p < L 7 0 → ∀ i, i < 5 → σ (12 + p) i = nI (L i p)
def cv_LM (L : cv_L) (μ : cv_St) : Prop := μ 0 5 = nI (L 7 0) ∧ (∀ d, d < 8 → μ 4 d = nI (L 5 d)) ∧ (∀ v, v < 3 → μ 5 v = nI (L 6 v)) ∧ ∀ p, p < L 7 0 → ∀ i, i < 5 → μ (6 + i) p = nI (L i p)
def cv_tk (L : cv_L) (p : Nat) : Nat := if L 0 p = 1 then L 3 p + 1 else if L 0 p = 2 then (L 3 p + 1) / 2 else L 3 p
def cv_op (L : cv_L) (p d : Nat) : Bool := decide (L 0 p = 2 ∨ L 5 d < L 4 p)
def cv_oe (L : cv_L) (p v : Nat) : Option Nat := if v = L 1 p then some (L 2 p) else if v = L 2 p then some (L 1 p) else none
theorem cv_oe_le {L : cv_L} (hB : cv_LB L) {p v : Nat} (hp : p < L 7 0) {z : Nat} (h : cv_oe L p v = some z) : z ≤ 2 := by
  obtain ⟨-, h1, h2, -⟩ := hB.2.1 p hp
  unfold cv_oe at h
  split at h
  · cases h; assumption
  · split at h
    · cases h; assumption
    · cases h
theorem cv_tk_b {L : cv_L} (hB : cv_LB L) {p : Nat} (hp : p < L 7 0) : 1 ≤ cv_tk L p ∧ cv_tk L p ≤ 4 := by
  obtain ⟨-, -, -, h3, -⟩ := hB.2.1 p hp
  unfold cv_tk
  split
  · omega
  · split <;> omega
/-- the day on which one comes that leaves valley v over pass p on day d -/
def cv_ar (L : cv_L) (p v d : Nat) : Option Nat := if cv_oe L p v = none ∨ cv_op L p d = false then none else if d + cv_tk L p ≤ 7 then some (d + cv_tk L p) else none
theorem cv_ar_le {L : cv_L} {p v d z : Nat} (h : cv_ar L p v d = some z) : z ≤ 7 := by
  unfold cv_ar at h
  split at h
  · cases h
  · split at h
    · cases h; assumption
    · cases h
theorem cv_ar_gt {L : cv_L} (hB : cv_LB L) {p v d z : Nat} (hp : p < L 7 0) (h : cv_ar L p v d = some z) : d < z := by
  have ht := cv_tk_b hB hp
  unfold cv_ar at h
  split at h
  · cases h
  · split at h
    · cases h; omega
    · cases h
