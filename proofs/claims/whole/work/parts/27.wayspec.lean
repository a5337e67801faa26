theorem cv_isN {α : Type} {o : Option α} (h : o.isNone = false) : ∃ q, o = some q := by
  cases o with
  | none => cases h
  | some q => exact ⟨q, rfl⟩
theorem cv_isN1 {α : Type} {o : Option α} (h : o.isNone = true) : o = none := by
  cases o with
  | none => rfl
  | some q => cases h
theorem cv_cpy_row {f g f' g' : Nat → Int32} {i j n q : Nat} (hi : i + n ≤ 60) (hq : q < 60) (hf : ∀ k, k < 60 → f k = f' k) (hg : ∀ k, k < 60 → g k = g' k) : va_cpy f g i j n q = va_cpy f' g' i j n q := by
  unfold va_cpy
  split
  · exact hf _ (by omega)
  · exact hg _ hq
/-! ===== ways ===== -/
def cv_r1 (L : cv_L) (s : Int32) : Int32 := if s < 0 ∨ nI 8 < s then -2 else if s < nI 6 ∧ cv_in s (L 7 0) = false then -1 else 0
def cv_rs (L : cv_L) (f : Nat → Int32) (i : Nat) : Nat → Int32
  | 0 => 0
  | n + 1 => if cv_rs L f i n = 0 then cv_r1 L (f (i + n)) else cv_rs L f i n
theorem cv_rs_of {L : cv_L} {f : Nat → Int32} {i k : Nat} {r : Int32} (h0 : cv_rs L f i k = 0) (h1 : cv_r1 L (f (i + k)) = r) (hr : ¬ r = 0) : ∀ n, k < n → cv_rs L f i n = r := by
  intro n hn
  induction n with
  | zero => omega
  | succ n ih =>
    simp only [cv_rs]
    by_cases e : k = n
    · subst e; rw [if_pos h0, h1]
    · rw [ih (by omega), if_neg hr]
theorem cv_rs_0 {L : cv_L} {f : Nat → Int32} {i : Nat} : ∀ {n : Nat}, cv_rs L f i n = 0 → ∀ k, k < n → cv_r1 L (f (i + k)) = 0
  | 0, _, k, hk => by omega
  | n + 1, h, k, hk => by
    simp only [cv_rs] at h
    split at h
    · rename_i h0
      by_cases e : k = n
      · subst e; exact h
      · exact cv_rs_0 h0 k (by omega)
    · exact absurd h (by assumption)
/-- a step that isn't refused: a number, over a pass that is there -/
theorem cv_r1_of {L : cv_L} (hB : cv_LB L) {s : Int32} (h : cv_r1 L s = 0) : ∃ x : Nat, x ≤ 8 ∧ s = nI x ∧ (x < 6 → x < L 7 0) := by
  unfold cv_r1 at h
  split at h
  · exact absurd h (by decide)
  rename_i h1
  split at h
  · exact absurd h (by decide)
  rename_i h2
  have h3 : ¬ s < 0 := fun e => h1 (Or.inl e)
  have h4 : ¬ nI 8 < s := fun e => h1 (Or.inr e)
  obtain ⟨x, hx, rfl⟩ := nI_of h3
  have h5 : x ≤ 8 := by
    rcases Nat.lt_or_ge 8 x with e | e
    · exact absurd (nI_lt e hx) h4
    · exact e
  refine ⟨x, h5, rfl, fun h6 => ?_⟩
  cases hi : cv_in (nI x) (L 7 0) with
  | true =>
    have h7 := hB.1
    obtain ⟨j, hj, e⟩ := cv_in_of hi (by omega)
    have := (nI_eq hx (by omega)).mp e
    omega
  | false => exact absurd ⟨nI_lt h6 (by decide), hi⟩ h2
/-- a way, step by step: where the wheel is behind k steps -/
def cv_ru (L : cv_L) (f : Nat → Int32) (i d : Nat) : Nat → Option cv_Q
  | 0 => some (d, 0, 0, 0)
  | k + 1 => match cv_ru L f i d k with
    | none => none
    | some q => cv_st L (cv_nt (f (i + k))) q
theorem cv_ru_n {L : cv_L} {f : Nat → Int32} {i d k : Nat} (h : cv_ru L f i d k = none) : cv_ru L f i d (k + 1) = none := by
  simp only [cv_ru]
  rw [h]
/-- its first wrong step -/
def cv_wr (L : cv_L) (f : Nat → Int32) (i d n : Nat) : Option Nat := if (L 6 0).testBit d = true then (List.range n).find? (fun k => (cv_ru L f i d (k + 1)).isNone) else if n = 0 then none else some 0
theorem cv_wr_lt {L : cv_L} {f : Nat → Int32} {i d n z : Nat} (h : cv_wr L f i d n = some z) : z < n := by
  unfold cv_wr at h
  split at h
  · exact List.mem_range.mp (List.mem_of_find?_eq_some h)
  · split at h
    · cases h
    · cases h; omega
theorem cv_wr_some {L : cv_L} {f : Nat → Int32} {i d n k : Nat} {q : cv_Q} (hb : (L 6 0).testBit d = true) (hk : k < n) (h0 : cv_ru L f i d k = some q) (h1 : cv_st L (cv_nt (f (i + k))) q = none) : cv_wr L f i d n = some k := by
  unfold cv_wr
  rw [if_pos hb, List.find?_range_eq_some]
  refine ⟨by simp only [cv_ru]; rw [h0]; dsimp only; rw [h1]; rfl, List.mem_range.mpr hk, fun j hj => ?_⟩
  have : ∀ m, m ≤ k → (cv_ru L f i d m).isNone = false := by
    intro m hm
    cases hr : cv_ru L f i d m with
    | some _ => rfl
    | none =>
      have : ∀ t, cv_ru L f i d (m + t) = none := by
        intro t
        induction t with
        | zero => exact hr
        | succ t ih => exact cv_ru_n ih
      have h2 := this (k - m)
      rw [show m + (k - m) = k by omega, h0] at h2
      cases h2
  simp [this (j + 1) (by omega)]
theorem cv_wr_none {L : cv_L} {f : Nat → Int32} {i d n : Nat} {q : cv_Q} (hb : n = 0 ∨ (L 6 0).testBit d = true) (h0 : cv_ru L f i d n = some q) : cv_wr L f i d n = none := by
  unfold cv_wr
  split
  · rw [List.find?_eq_none]
    intro k hk
    have hk := List.mem_range.mp hk
    cases hr : cv_ru L f i d (k + 1) with
    | some _ => simp
    | none =>
      have : ∀ t, cv_ru L f i d (k + 1 + t) = none := by
        intro t
        induction t with
        | zero => exact hr
        | succ t ih => exact cv_ru_n ih
      have h2 := this (n - (k + 1))
      rw [show k + 1 + (n - (k + 1)) = n by omega, h0] at h2
      cases h2
  · rename_i h
    rcases hb with hb | hb
    · rw [if_pos hb]
    · exact absurd hb h
/-- the answer of a way, by its first wrong step, where the wheel is, what is asked -/
def cv_ow (o : Option Nat) (q : cv_Q) (v : Nat) : Int32 := if v = 1 then cv_o o else match o with
  | some k => -100 - nI k
  | none => if v = 0 then nI q.1 else if v = 2 then nI q.2.2.2 else if v = 3 then nI q.2.1 else nI q.2.2.1
abbrev cv_ok_way (x y z t v : Int32) : Prop := cv_in x 8 = true ∧ cv_in y 4 = true ∧ cv_in z 3 = true ∧ cv_in t 21 = true ∧ cv_in v 5 = true
def cv_f_way (sl : Nat → Option (Nat × Nat)) (x y z w t v : Int32) : Nat := if cv_ok_way x y z t v then cv_fo (sl (cv_nt y)) z w t else 0
def cv_a_way (sl : Nat → Option (Nat × Nat)) (sc : Nat → Nat → Int32) (L : cv_L) (x y z w t v : Int32) : Int32 :=
  if cv_in x 8 = true then (if cv_in y 4 = true then (if cv_in z 3 = true ∧ cv_in t 21 = true ∧ cv_in v 5 = true then
    (if cv_fo (sl (cv_nt y)) z w t = 0 then (if 0 < L 7 0 then
      (if cv_rs L (sc (cv_nt y)) (cv_nt w) (cv_nt t) = 0 then cv_ow (cv_wr L (sc (cv_nt y)) (cv_nt w) (cv_nt x) (cv_nt t)) ((cv_ru L (sc (cv_nt y)) (cv_nt w) (cv_nt x) (cv_nt t)).getD (0, 0, 0, 0)) (cv_nt v)
       else cv_rs L (sc (cv_nt y)) (cv_nt w) (cv_nt t)) else -3)
     else -10 - nI (cv_fo (sl (cv_nt y)) z w t)) else -2) else -1) else -2
theorem cv_ru_b {L : cv_L} (hB : cv_LB L) {f : Nat → Int32} {i d n : Nat} (hd : d < 8) (hr : ∀ k, k < n → cv_r1 L (f (i + k)) = 0) : ∀ k, k ≤ n → ∀ q, cv_ru L f i d k = some q → cv_WB q
  | 0, _, q, h => by cases h; exact ⟨hd, (by decide : (0 : Nat) < 3), (by decide : (0 : Nat) < 3), Nat.zero_le _⟩
  | k + 1, hk, q, h => by
    simp only [cv_ru] at h
    split at h
    · cases h
    · rename_i q0 h0
      obtain ⟨x, hx, e, hx6⟩ := cv_r1_of hB (hr k (by omega))
      rw [cv_nt, e, nI_clamp (by omega)] at h
      exact cv_st_b hB (cv_ru_b hB hd hr k (by omega) q0 h0) hx6 hx h
