/-! ===== one int of a cell is tried with other values, then put back ===== -/
def cv_iv (c i : Nat) (σ τ : cv_St) : Prop := (∀ k, k ≠ c → k ≠ 20 → k ≠ 21 → k ≠ 22 → τ k = σ k) ∧ ∀ q, q ≠ i → τ c q = σ c q
theorem cv_iv_0 (c i : Nat) (σ : cv_St) : cv_iv c i σ σ := ⟨fun _ _ _ _ _ => rfl, fun _ _ => rfl⟩
theorem cv_iv_u {c i : Nat} {σ τ : cv_St} (h : cv_iv c i σ τ) (w : Int32) : ∀ k, k ≠ 20 → k ≠ 21 → k ≠ 22 → cv_u τ c i w k = cv_u σ c i w k := by
  intro k h1 h2 h3
  by_cases e : k = c
  · subst e
    funext q
    by_cases e2 : q = i
    · subst e2; rw [cv_u_s, cv_u_s]
    · rw [cv_u_i e2, cv_u_i e2]; exact h.2 q e2
  · rw [cv_u_c e, cv_u_c e]; exact h.1 k e h1 h2 h3
theorem cv_iv_s {c i : Nat} {σ τ u : cv_St} {w : Int32} (hc : c ≠ 20 ∧ c ≠ 21 ∧ c ≠ 22) (h : cv_iv c i σ τ) (hu : ∀ k, k ≠ 20 → k ≠ 21 → k ≠ 22 → u k = cv_u τ c i w k) : cv_iv c i σ u := by
  refine ⟨fun k h0 h1 h2 h3 => by rw [hu k h1 h2 h3, cv_u_c h0]; exact h.1 k h0 h1 h2 h3, fun q hq => by rw [hu c hc.1 hc.2.1 hc.2.2, cv_u_i hq]; exact h.2 q hq⟩
theorem cv_iv_end {c i : Nat} {σ τ : cv_St} {w : Int32} (h : cv_iv c i σ τ) (hw : σ c i = w) : ∀ k, k ≠ 20 → k ≠ 21 → k ≠ 22 → cv_u τ c i w k = σ k := by
  intro k h1 h2 h3
  by_cases e : k = c
  · subst e
    funext q
    by_cases e2 : q = i
    · subst e2; rw [cv_u_s, hw]
    · rw [cv_u_i e2]; exact h.2 q e2
  · rw [cv_u_c e]; exact h.1 k e h1 h2 h3
theorem cv_iv_D {c i : Nat} {σ τ : cv_St} {rc : Nat} {rd : Nat → Nat} {rn : Nat → Option Nat} (hc : c < 20) (h : cv_iv c i σ τ) (hD : cv_DC rc rd rn σ) (w : Int32) : cv_DC rc rd rn (cv_u τ c i w) := by
  refine ⟨by rw [cv_u_c (by omega), h.1 23 (by omega) (by decide) (by decide) (by decide)]; exact hD.1, fun k hk => ?_⟩
  rw [cv_u_c (by omega), cv_u_c (by omega), h.1 24 (by omega) (by decide) (by decide) (by decide), h.1 25 (by omega) (by decide) (by decide) (by decide)]
  exact hD.2 k hk
theorem cv_uu (σ : cv_St) (k i : Nat) (v w : Int32) : cv_u (cv_u σ k i v) k i w = cv_u σ k i w := by
  funext a b
  rw [cv_u_at, cv_u_at, cv_u_at]
  split <;> rfl
theorem cv_lst_s (P : Nat → Bool) (n : Nat) : cv_lst P (n + 1) = (match cv_lst P n with
  | some z => some z
  | none => if P n = true then some n else none) := by
  unfold cv_lst
  rw [List.range_succ, List.find?_append]
  cases h : List.find? P (List.range n) with
  | some z => rfl
  | none =>
    cases hp : P n with
    | true => simp [hp]
    | false => simp [hp]
theorem cv_lst_lt {P : Nat → Bool} {n z : Nat} (h : cv_lst P n = some z) : z < n := by
  unfold cv_lst at h
  exact List.mem_range.mp (List.mem_of_find?_eq_some h)
/-- giving doesn't change where a wheel can come -/
theorem cv_RT_give (L : cv_L) (cl : Nat → Bool) (w s : Nat) : ∀ k j, cv_RT (cv_lu L 6 w s) cl k j = cv_RT L cl k j := by
  have hoe : ∀ p v, cv_oe (cv_lu L 6 w s) p v = cv_oe L p v := fun p v => by simp [cv_oe, cv_lu]
  have har : ∀ p v d, cv_ar (cv_lu L 6 w s) p v d = cv_ar L p v d := fun p v d => by
    have h1 : cv_tk (cv_lu L 6 w s) p = cv_tk L p := by simp [cv_tk, cv_lu]
    have h2 : cv_op (cv_lu L 6 w s) p d = cv_op L p d := by simp [cv_op, cv_lu]
    unfold cv_ar
    rw [hoe, h1, h2]
  have h7 : cv_lu L 6 w s 7 0 = L 7 0 := cv_lu_k (by decide)
  have hrl : ∀ (f : Nat → Nat) v d i0 k, cv_rl (cv_lu L 6 w s) cl f v d i0 k = cv_rl L cl f v d i0 k := by
    intro f v d i0 k
    induction k with
    | zero => rfl
    | succ k ih =>
      simp only [cv_rl]
      rw [ih]
      congr 1
  intro k
  induction k with
  | zero => intro j; rfl
  | succ k ih =>
    intro j
    have e : cv_RT (cv_lu L 6 w s) cl k = cv_RT L cl k := funext ih
    simp only [cv_RT]
    rw [e]
    unfold cv_rv
    rw [hrl, h7]
def cv_lv (f : Nat) (t : Int32) : Int32 := nI 31 * t + nI f
def cv_a_tell (L : cv_L) (x : Int32) : Int32 := if cv_in x (L 7 0) = true then (if L 0 (cv_nt x) = 1 then nI (L 4 (cv_nt x) + 100) else if L 0 (cv_nt x) = 2 then nI (L 4 (cv_nt x) + 100 + L 4 (cv_nt x)) else nI (L 4 (cv_nt x))) else -1
def cv_t_tell (L : cv_L) (tr x : Int32) : Int32 := if cv_in x (L 7 0) = true then (if L 0 (cv_nt x) = 1 then cv_lv 1 (cv_lv 2 tr) else if L 0 (cv_nt x) = 2 then cv_lv 1 (cv_lv 1 (cv_lv 2 (cv_lv 3 tr))) else cv_lv 1 tr) else tr
def cv_a_mark (L : cv_L) (x : Int32) : Int32 := if cv_in x (L 7 0) = true then (if L 0 (cv_nt x) = 2 then 80 else x) else -1
def cv_t_mark (L : cv_L) (tr x : Int32) : Int32 := if cv_in x (L 7 0) = true then (if L 0 (cv_nt x) = 2 then cv_lv 5 tr else cv_lv 4 tr) else tr
def cv_a_as (L : cv_L) (x y : Int32) : Int32 := if cv_in x (L 7 0) = true then (if cv_in y 3 = true then (if cv_nt y ≤ L 0 (cv_nt x) then 1 else -12) else -2) else -1
def cv_f_as (L : cv_L) (x y : Int32) : Nat := if cv_in x (L 7 0) = true ∧ cv_in y 3 = true ∧ L 0 (cv_nt x) < cv_nt y then 2 else 0
def cv_a_many (L : cv_L) (rc : Nat) (x : Int32) : Int32 := if x = 0 then nI (L 7 0) else if x = 1 then nI (cv_cnt (fun d => (L 6 0).testBit d && ((L 6 1).testBit d && (L 6 2).testBit d)) 8) else if x = 2 then nI rc else -2
/-- halves, while both are even -/
def cv_hv : Nat → Nat → Nat → Nat × Nat
  | 0, u, l => (u, l)
  | k + 1, u, l => if u % 2 = 0 then cv_hv k (u / 2) (l / 2) else (u, l)
def cv_odn (L : cv_L) (k d w : Nat) : Nat := cv_cnt (fun i => decide (i &&& (L 6 k ^^^ 4294967295) = 0) && cv_can L (-1) d w (if k = 1 then i else L 6 1) (if k = 2 then i else L 6 2)) 256
def cv_pc (t : Nat) : Nat := cv_cnt (fun d => t.testBit d) 8
def cv_a_odds (L : cv_L) (x y z w : Int32) : Int64 := if (x = 1 ∨ x = 2) ∧ cv_in y 8 = true ∧ cv_in z 8 = true ∧ cv_in w 2 = true ∧ 0 < L 7 0 then (if w = 0 then lN (cv_hv (cv_pc (L 6 (cv_nt x))) (cv_odn L (cv_nt x) (cv_nt y) (cv_nt z)) (2 ^ cv_pc (L 6 (cv_nt x)))).1 else lN (cv_hv (cv_pc (L 6 (cv_nt x))) (cv_odn L (cv_nt x) (cv_nt y) (cv_nt z)) (2 ^ cv_pc (L 6 (cv_nt x)))).2) else (-9223372036854775808)
