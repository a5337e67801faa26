/-! ===== the whole of the class's ints, by what they tell: trace, fault, sheets, cells, land, readings ===== -/
def cv_RC (tr : Int32) (ft : Nat) (sl : Nat → Option (Nat × Nat)) (sc : Nat → Nat → Int32) (L : cv_L) (rc : Nat) (rd : Nat → Nat) (rn : Nat → Option Nat) (σ : cv_St) : Prop :=
  σ 0 4 = tr ∧ σ 0 5 = nI ft ∧ (∀ k, k < 4 → cv_S1 (sl k) (σ (2 + k)) ∧ ((sl k).isSome = true → ∀ i, i < 60 → σ (6 + k) i = sc k i)) ∧ cv_LC L σ ∧ σ 10 5 = cv_b (decide (0 < L 7 0)) ∧ cv_DC rc rd rn σ
theorem cv_DC_k {rc : Nat} {rd : Nat → Nat} {rn : Nat → Option Nat} {σ τ : cv_St} (h : ∀ k, k ≠ 20 → k ≠ 21 → k ≠ 22 → τ k = σ k) (hD : cv_DC rc rd rn σ) : cv_DC rc rd rn τ :=
  ⟨by rw [h 23 (by decide) (by decide) (by decide)]; exact hD.1, fun k hk => by rw [h 24 (by decide) (by decide) (by decide), h 25 (by decide) (by decide) (by decide)]; exact hD.2 k hk⟩
theorem cv_RC_k {tr : Int32} {ft : Nat} {sl : Nat → Option (Nat × Nat)} {sc : Nat → Nat → Int32} {L : cv_L} {rc : Nat} {rd : Nat → Nat} {rn : Nat → Option Nat} {σ τ : cv_St} (h : ∀ k, k ≠ 20 → k ≠ 21 → k ≠ 22 → τ k = σ k) (hB : cv_LB L) (hR : cv_RC tr ft sl sc L rc rd rn σ) : cv_RC tr ft sl sc L rc rd rn τ := by
  obtain ⟨h1, h2, h3, h4, h5, h6⟩ := hR
  refine ⟨by rw [h 0 (by decide) (by decide) (by decide)]; exact h1, by rw [h 0 (by decide) (by decide) (by decide)]; exact h2, fun k hk => ?_, cv_LC_k h h4 hB, by rw [h 10 (by decide) (by decide) (by decide)]; exact h5, cv_DC_k h h6⟩
  rw [h (2 + k) (by omega) (by omega) (by omega), h (6 + k) (by omega) (by omega) (by omega)]
  exact h3 k hk
theorem cv_RC_f {tr : Int32} {ft : Nat} {sl : Nat → Option (Nat × Nat)} {sc : Nat → Nat → Int32} {L : cv_L} {rc : Nat} {rd : Nat → Nat} {rn : Nat → Option Nat} {σ : cv_St} (f : Nat) (hR : cv_RC tr ft sl sc L rc rd rn σ) : cv_RC tr f sl sc L rc rd rn (cv_u σ 0 5 (nI f)) := by
  obtain ⟨h1, h2, h3, h4, h5, h6⟩ := hR
  have e : ∀ k, k ≠ 0 → cv_u σ 0 5 (nI f) k = σ k := fun k hk => cv_u_c hk
  refine ⟨by rw [cv_u_i (by decide)]; exact h1, cv_u_s, fun k hk => ?_, ?_, by rw [e 10 (by decide)]; exact h5, ?_⟩
  · rw [e (2 + k) (by omega), e (6 + k) (by omega)]; exact h3 k hk
  · exact ⟨by rw [e 10 (by decide)]; exact h4.1, fun d hd => by rw [e 18 (by decide)]; exact h4.2.1 d hd, fun v hv => by rw [e 19 (by decide)]; exact h4.2.2.1 v hv, fun p hp i hi => by rw [e (12 + p) (by omega)]; exact h4.2.2.2 p hp i hi⟩
  · exact ⟨by rw [e 23 (by decide)]; exact h6.1, fun k hk => by rw [e 24 (by decide), e 25 (by decide)]; exact h6.2 k hk⟩
theorem cv_RC_t {tr : Int32} {ft : Nat} {sl : Nat → Option (Nat × Nat)} {sc : Nat → Nat → Int32} {L : cv_L} {rc : Nat} {rd : Nat → Nat} {rn : Nat → Option Nat} {σ : cv_St} (t : Int32) (hR : cv_RC tr ft sl sc L rc rd rn σ) : cv_RC t ft sl sc L rc rd rn (cv_u σ 0 4 t) := by
  obtain ⟨h1, h2, h3, h4, h5, h6⟩ := hR
  have e : ∀ k, k ≠ 0 → cv_u σ 0 4 t k = σ k := fun k hk => cv_u_c hk
  refine ⟨cv_u_s, by rw [cv_u_i (by decide)]; exact h2, fun k hk => ?_, ?_, by rw [e 10 (by decide)]; exact h5, ?_⟩
  · rw [e (2 + k) (by omega), e (6 + k) (by omega)]; exact h3 k hk
  · exact ⟨by rw [e 10 (by decide)]; exact h4.1, fun d hd => by rw [e 18 (by decide)]; exact h4.2.1 d hd, fun v hv => by rw [e 19 (by decide)]; exact h4.2.2.1 v hv, fun p hp i hi => by rw [e (12 + p) (by omega)]; exact h4.2.2.2 p hp i hi⟩
  · exact ⟨by rw [e 23 (by decide)]; exact h6.1, fun k hk => by rw [e 24 (by decide), e 25 (by decide)]; exact h6.2 k hk⟩
theorem cv_lu_s {L : cv_L} {k i v : Nat} : cv_lu L k i v k i = v := by simp [cv_lu]
theorem cv_lu_k {L : cv_L} {k i v j q : Nat} (h : j ≠ k) : cv_lu L k i v j q = L j q := by simp [cv_lu, h]
theorem cv_lu_i {L : cv_L} {k i v j q : Nat} (h : q ≠ i) : cv_lu L k i v j q = L j q := by simp [cv_lu, h]
/-- snow of a day -/
theorem cv_LC_snow {L : cv_L} {σ : cv_St} (hL : cv_LC L σ) (hB : cv_LB L) (d v : Nat) : cv_LC (cv_lu L 5 d v) (cv_u σ 18 d (nI v)) := by
  have h6 := hB.1
  refine ⟨by rw [cv_u_c (by decide), cv_lu_k (by decide)]; exact hL.1, fun j hj => ?_, fun w hw => by rw [cv_u_c (by decide), cv_lu_k (by decide)]; exact hL.2.2.1 w hw, fun p hp i hi => ?_⟩
  · by_cases e : j = d
    · subst e; rw [cv_u_s, cv_lu_s]
    · rw [cv_u_i e, cv_lu_i e]; exact hL.2.1 j hj
  · rw [cv_lu_k (by decide)] at hp
    rw [cv_u_c (by omega), cv_lu_k (by omega)]; exact hL.2.2.2 p hp i hi
theorem cv_LB_snow {L : cv_L} (hB : cv_LB L) {d v : Nat} (hv : v ≤ 9) : cv_LB (cv_lu L 5 d v) := by
  refine ⟨by rw [cv_lu_k (by decide)]; exact hB.1, fun p hp => ?_, fun j hj => ?_, fun w hw => by rw [cv_lu_k (by decide)]; exact hB.2.2.2 w hw⟩
  · rw [cv_lu_k (by decide)] at hp
    simp only [cv_lu_k (show (0 : Nat) ≠ 5 by decide), cv_lu_k (show (1 : Nat) ≠ 5 by decide), cv_lu_k (show (2 : Nat) ≠ 5 by decide), cv_lu_k (show (3 : Nat) ≠ 5 by decide), cv_lu_k (show (4 : Nat) ≠ 5 by decide)]
    exact hB.2.1 p hp
  · by_cases e : j = d
    · subst e; rw [cv_lu_s]; exact hv
    · rw [cv_lu_i e]; exact hB.2.2.1 j hj
/-- days of giving of a valley -/
theorem cv_LC_give {L : cv_L} {σ : cv_St} (hL : cv_LC L σ) (hB : cv_LB L) (w v : Nat) : cv_LC (cv_lu L 6 w v) (cv_u σ 19 w (nI v)) := by
  have h6 := hB.1
  refine ⟨by rw [cv_u_c (by decide), cv_lu_k (by decide)]; exact hL.1, fun j hj => by rw [cv_u_c (by decide), cv_lu_k (by decide)]; exact hL.2.1 j hj, fun j hj => ?_, fun p hp i hi => ?_⟩
  · by_cases e : j = w
    · subst e; rw [cv_u_s, cv_lu_s]
    · rw [cv_u_i e, cv_lu_i e]; exact hL.2.2.1 j hj
  · rw [cv_lu_k (by decide)] at hp
    rw [cv_u_c (by omega), cv_lu_k (by omega)]; exact hL.2.2.2 p hp i hi
theorem cv_LB_give {L : cv_L} (hB : cv_LB L) {w v : Nat} (hv : v < 256) : cv_LB (cv_lu L 6 w v) := by
  refine ⟨by rw [cv_lu_k (by decide)]; exact hB.1, fun p hp => ?_, fun j hj => by rw [cv_lu_k (by decide)]; exact hB.2.2.1 j hj, fun j hj => ?_⟩
  · rw [cv_lu_k (by decide)] at hp
    simp only [cv_lu_k (show (0 : Nat) ≠ 6 by decide), cv_lu_k (show (1 : Nat) ≠ 6 by decide), cv_lu_k (show (2 : Nat) ≠ 6 by decide), cv_lu_k (show (3 : Nat) ≠ 6 by decide), cv_lu_k (show (4 : Nat) ≠ 6 by decide)]
    exact hB.2.1 p hp
  · by_cases e : j = w
    · subst e; rw [cv_lu_s]; exact hv
    · rw [cv_lu_i e]; exact hB.2.2.2 j hj
/-- a pass's number of a kind i < 5 -/
theorem cv_LC_pass {L : cv_L} {σ : cv_St} (hL : cv_LC L σ) (hB : cv_LB L) (p i v : Nat) (hi : i < 5) (hp : p < L 7 0) : cv_LC (cv_lu L i p v) (cv_u σ (12 + p) i (nI v)) := by
  have h6 := hB.1
  refine ⟨by rw [cv_u_c (by omega), cv_lu_k (by omega)]; exact hL.1, fun j hj => by rw [cv_u_c (by omega), cv_lu_k (by omega)]; exact hL.2.1 j hj, fun j hj => by rw [cv_u_c (by omega), cv_lu_k (by omega)]; exact hL.2.2.1 j hj, fun p' hp' i' hi' => ?_⟩
  rw [cv_lu_k (by omega)] at hp'
  by_cases e : p' = p
  · subst e
    by_cases e2 : i' = i
    · subst e2; rw [cv_u_s, cv_lu_s]
    · rw [cv_u_i e2, cv_lu_k e2]; exact hL.2.2.2 p' hp' i' hi'
  · rw [cv_u_c (by omega), cv_lu_i e]; exact hL.2.2.2 p' hp' i' hi'
theorem cv_LB_high {L : cv_L} (hB : cv_LB L) {p v : Nat} (hv : v ≤ 9) : cv_LB (cv_lu L 4 p v) := by
  refine ⟨by rw [cv_lu_k (by decide)]; exact hB.1, fun j hj => ?_, fun j hj => by rw [cv_lu_k (by decide)]; exact hB.2.2.1 j hj, fun j hj => by rw [cv_lu_k (by decide)]; exact hB.2.2.2 j hj⟩
  rw [cv_lu_k (by decide)] at hj
  obtain ⟨g0, g1, g2, g3, g4⟩ := hB.2.1 j hj
  refine ⟨by rw [cv_lu_k (by decide)]; exact g0, by rw [cv_lu_k (by decide)]; exact g1, by rw [cv_lu_k (by decide)]; exact g2, by rw [cv_lu_k (by decide)]; exact g3, ?_⟩
  by_cases e : j = p
  · subst e; rw [cv_lu_s]; exact hv
  · rw [cv_lu_i e]; exact g4
theorem cv_LB_kind {L : cv_L} (hB : cv_LB L) {p v : Nat} (hv : v ≤ 2) : cv_LB (cv_lu L 0 p v) := by
  refine ⟨by rw [cv_lu_k (by decide)]; exact hB.1, fun j hj => ?_, fun j hj => by rw [cv_lu_k (by decide)]; exact hB.2.2.1 j hj, fun j hj => by rw [cv_lu_k (by decide)]; exact hB.2.2.2 j hj⟩
  rw [cv_lu_k (by decide)] at hj
  obtain ⟨g0, g1, g2, g3, g4⟩ := hB.2.1 j hj
  refine ⟨?_, by rw [cv_lu_k (by decide)]; exact g1, by rw [cv_lu_k (by decide)]; exact g2, by rw [cv_lu_k (by decide)]; exact g3, by rw [cv_lu_k (by decide)]; exact g4⟩
  by_cases e : j = p
  · subst e; rw [cv_lu_s]; exact hv
  · rw [cv_lu_i e]; exact g0
theorem cv_RC_L {tr : Int32} {ft : Nat} {sl : Nat → Option (Nat × Nat)} {sc : Nat → Nat → Int32} {L L' : cv_L} {rc : Nat} {rd : Nat → Nat} {rn : Nat → Option Nat} {σ τ : cv_St} (h : ∀ k, k < 10 ∨ 23 ≤ k → τ k = σ k) (h10 : τ 10 5 = σ 10 5) (hn : L' 7 0 = L 7 0) (hL : cv_LC L' τ) (hR : cv_RC tr ft sl sc L rc rd rn σ) : cv_RC tr ft sl sc L' rc rd rn τ := by
  obtain ⟨h1, h2, h3, h4, h5, h6⟩ := hR
  refine ⟨by rw [h 0 (by decide)]; exact h1, by rw [h 0 (by decide)]; exact h2, fun k hk => ?_, hL, by rw [h10, hn]; exact h5, ⟨by rw [h 23 (by decide)]; exact h6.1, fun k hk => by rw [h 24 (by decide), h 25 (by decide)]; exact h6.2 k hk⟩⟩
  rw [h (2 + k) (by omega), h (6 + k) (by omega)]
  exact h3 k hk
/-! ===== the answers ===== -/
abbrev cv_nt (x : Int32) : Nat := x.toNatClampNeg
/-- the day of being done at the soonest, without the pass x -/
def cv_so (L : cv_L) (x : Int32) (d r t : Nat) : Option Nat := cv_dw (cv_RT L (fun q => decide (nI q = x)) 8) (L 6 0) d r t
abbrev cv_sn (L : cv_L) (d : Nat) : Option Nat := cv_so L (-1) d (L 6 1) (L 6 2)
def cv_a_ofPass (L : cv_L) (x y : Int32) : Int32 := if cv_in x (L 7 0) = true then (if y = 0 then nI (L 0 (cv_nt x)) else if y = 1 then nI (L 1 (cv_nt x)) else if y = 2 then nI (L 2 (cv_nt x)) else if y = 3 then nI (L 3 (cv_nt x)) else if y = 4 then nI (L 4 (cv_nt x)) else if y = 5 then nI (cv_tk L (cv_nt x)) else -2) else -1
/-- refused: x is no day, there is no land -/
def cv_day (L : cv_L) (x : Int32) (v : Int32) : Int32 := if cv_in x 8 = true then (if 0 < L 7 0 then v else -3) else -2
def cv_day2 (L : cv_L) (x y : Int32) (v : Int32) : Int32 := if cv_in x 8 = true ∧ cv_in y 8 = true then (if 0 < L 7 0 then v else -3) else -2
def cv_a_snow (L : cv_L) (x y : Int32) : Int32 := if cv_in x 8 = true ∧ cv_in y 10 = true then (if 0 < L 7 0 then nI (L 5 (cv_nt x)) else -3) else -2
def cv_n_snow (L : cv_L) (x y : Int32) : cv_L := if cv_in x 8 = true ∧ cv_in y 10 = true ∧ 0 < L 7 0 then cv_lu L 5 (cv_nt x) (cv_nt y) else L
def cv_a_give (L : cv_L) (x y : Int32) : Int32 := if cv_in x 3 = true then (if cv_in y 256 = true then (if 0 < L 7 0 then nI (L 6 (cv_nt x)) else -3) else -2) else -1
def cv_n_give (L : cv_L) (x y : Int32) : cv_L := if cv_in x 3 = true ∧ cv_in y 256 = true ∧ 0 < L 7 0 then cv_lu L 6 (cv_nt x) (cv_nt y) else L
/-- a set, by its members below n -/
def cv_sb (P : Nat → Bool) : Nat → Nat
  | 0 => 0
  | n + 1 => if P n = true then cv_sb P n ||| 2 ^ n else cv_sb P n
/-- the last below n -/
def cv_la (P : Nat → Bool) : Nat → Option Nat
  | 0 => none
  | n + 1 => if P n = true then some n else cv_la P n
theorem cv_la_lt {P : Nat → Bool} : ∀ {n z : Nat}, cv_la P n = some z → z < n
  | 0, z, h => by cases h
  | n + 1, z, h => by
    simp only [cv_la] at h
    split at h
    · cases h; omega
    · have := cv_la_lt h; omega
def cv_can (L : cv_L) (x : Int32) (d w r t : Nat) : Bool := cv_by (cv_so L x d r t) w
def cv_a_open (L : cv_L) (x : Int32) : Int32 := cv_day L x (nI (cv_sb (fun p => cv_op L p (cv_nt x)) (L 7 0)))
def cv_a_soonest (L : cv_L) (x : Int32) : Int32 := cv_day L x (cv_o (cv_sn L (cv_nt x)))
def cv_a_holes (L : cv_L) (x : Int32) : Int32 := cv_day L x (cv_o (cv_fh L (cv_nt x)))
def cv_a_last (L : cv_L) (x : Int32) : Int32 := cv_day L x (cv_o (cv_la (fun d => cv_can L (-1) d (cv_nt x) (L 6 1) (L 6 2)) 8))
def cv_a_safe (L : cv_L) (x : Int32) : Int32 := cv_day L x (cv_o (cv_la (fun d => cv_al (fun h => cv_can L (-1) d (cv_nt x) (cv_clr (L 6 1) (h / 8)) (cv_clr (L 6 2) (h % 8))) 64) 8))
def cv_a_hangs (L : cv_L) (x y : Int32) : Int32 := cv_day2 L x y (if cv_can L (-1) (cv_nt x) (cv_nt y) (L 6 1) (L 6 2) = true then nI (cv_sb (fun p => !cv_can L (nI p) (cv_nt x) (cv_nt y) (L 6 1) (L 6 2)) (L 7 0)) else 0)
def cv_a_peace (L : cv_L) (x y : Int32) : Int32 := cv_day2 L x y (cv_o (cv_pe (cv_RT L (fun q => decide (nI q = -1)) 8) (L 6 0) (L 6 1) (L 6 2) (cv_nt x) (cv_nt y)))
/-- all readings are so in a land -/
def cv_hold (L : cv_L) (rc : Nat) (rd : Nat → Nat) (rn : Nat → Option Nat) : Bool := cv_ho (cv_sn L) rc rd rn
def cv_a_snows (L : cv_L) (rc : Nat) (rd : Nat → Nat) (rn : Nat → Option Nat) (x : Int32) : Int32 := cv_day L x (nI (cv_sb (fun v => cv_hold (cv_lu L 5 (cv_nt x) v) rc rd rn) 10))
def cv_a_heights (L : cv_L) (rc : Nat) (rd : Nat → Nat) (rn : Nat → Option Nat) (x : Int32) : Int32 := if cv_in x (L 7 0) = true then nI (cv_sb (fun v => cv_hold (cv_lu L 4 (cv_nt x) v) rc rd rn) 10) else -1
def cv_a_kinds (L : cv_L) (rc : Nat) (rd : Nat → Nat) (rn : Nat → Option Nat) (x : Int32) : Int32 := if cv_in x (L 7 0) = true then nI (cv_sb (fun v => cv_hold (cv_lu L 0 (cv_nt x) v) rc rd rn) 3) else -1
/-- the first below n -/
def cv_lst (P : Nat → Bool) (n : Nat) : Option Nat := (List.range n).find? P
def cv_a_gave (L : cv_L) (rc : Nat) (rd : Nat → Nat) (rn : Nat → Option Nat) (x y : Int32) : Int32 := if cv_in x 3 = true then (if cv_in y 2 = true then (if 0 < L 7 0 then (if y = 0 then nI (cv_cnt (fun s => cv_hold (cv_lu L 6 (cv_nt x) s) rc rd rn) 256) else cv_o (cv_lst (fun s => cv_hold (cv_lu L 6 (cv_nt x) s) rc rd rn) 256)) else -3) else -2) else -1
def cv_a_reading (L : cv_L) (rc : Nat) (x y : Int32) : Int32 := if cv_in x 8 = true ∧ (y = -9 ∨ cv_in y 8 = true) then (if 0 < L 7 0 then (if rc < 8 then nI rc else -4) else -3) else -2
abbrev cv_ok_reading (L : cv_L) (rc : Nat) (x y : Int32) : Prop := cv_in x 8 = true ∧ (y = -9 ∨ cv_in y 8 = true) ∧ 0 < L 7 0 ∧ rc < 8
def cv_on (y : Int32) : Option Nat := if y = -9 then none else some (cv_nt y)
def cv_a_back (rc : Nat) (x : Int32) : Int32 := if cv_in x (rc + 1) = true then nI (rc - cv_nt x) else -2
