/-! ===== sheets: answers ===== -/
def cv_ss {α : Type} (g : Nat → α) (k : Nat) (v : α) : Nat → α := fun j => if j = k then v else g j
theorem cv_ss_s {α : Type} {g : Nat → α} {k : Nat} {v : α} : cv_ss g k v k = v := by simp [cv_ss]
theorem cv_ss_n {α : Type} {g : Nat → α} {k j : Nat} {v : α} (h : j ≠ k) : cv_ss g k v j = g j := by simp [cv_ss, h]
theorem cv_RC_S {tr : Int32} {ft : Nat} {sl : Nat → Option (Nat × Nat)} {sc : Nat → Nat → Int32} {L : cv_L} {rc : Nat} {rd : Nat → Nat} {rn : Nat → Option Nat} {σ u : cv_St} {k : Nat} {o : Option (Nat × Nat)} {f : Nat → Int32} (hB : cv_LB L) (hk : k < 4) (hu : ∀ j, j ≠ 2 + k → j ≠ 6 + k → u j = σ j) (hS : cv_S1 o (u (2 + k))) (hf : o.isSome = true → ∀ i, i < 60 → u (6 + k) i = f i) (hR : cv_RC tr ft sl sc L rc rd rn σ) : cv_RC tr ft (cv_ss sl k o) (cv_ss sc k f) L rc rd rn u := by
  obtain ⟨h1, h2, h3, h4, h5, h6⟩ := hR
  have h9 := hB.1
  refine ⟨by rw [hu 0 (by omega) (by omega)]; exact h1, by rw [hu 0 (by omega) (by omega)]; exact h2, fun j hj => ?_, ⟨by rw [hu 10 (by omega) (by omega)]; exact h4.1, fun d hd => by rw [hu 18 (by omega) (by omega)]; exact h4.2.1 d hd, fun v hv => by rw [hu 19 (by omega) (by omega)]; exact h4.2.2.1 v hv, fun p hp i hi => by rw [hu (12 + p) (by omega) (by omega)]; exact h4.2.2.2 p hp i hi⟩, by rw [hu 10 (by omega) (by omega)]; exact h5, by rw [hu 23 (by omega) (by omega)]; exact h6.1, fun q hq => by rw [hu 24 (by omega) (by omega), hu 25 (by omega) (by omega)]; exact h6.2 q hq⟩
  by_cases e : j = k
  · subst e
    rw [cv_ss_s, cv_ss_s]
    exact ⟨hS, hf⟩
  · rw [cv_ss_n e, cv_ss_n e, hu (2 + j) (by omega) (by omega), hu (6 + j) (by omega) (by omega)]
    exact h3 j hj
abbrev cv_ok_sheet (x y z : Int32) : Prop := cv_in x 4 = true ∧ cv_in y 3 = true ∧ cv_in z 61 = true
def cv_a_sheet (x y z : Int32) : Int32 := if cv_in x 4 = true then (if cv_in y 3 = true ∧ z ≤ nI 60 then (if z < 0 then -14 else 1) else -2) else -1
def cv_f_sheet (x y z : Int32) : Nat := if cv_in x 4 = true ∧ cv_in y 3 = true ∧ z ≤ nI 60 ∧ z < 0 then 4 else 0
def cv_a_lose (sl : Nat → Option (Nat × Nat)) (x : Int32) : Int32 := if cv_in x 4 = true then cv_b (sl (cv_nt x)).isSome else -1
def cv_fp (o : Option (Nat × Nat)) (y : Int32) : Nat := match o with
  | none => 1
  | some q => if cv_hs q.2 y (nI 1) = true then 0 else 3
def cv_f_put (sl : Nat → Option (Nat × Nat)) (x y : Int32) : Nat := if cv_in x 4 = true then cv_fp (sl (cv_nt x)) y else 0
def cv_a_put (sl : Nat → Option (Nat × Nat)) (x y : Int32) : Int32 := if cv_in x 4 = true then (if cv_fp (sl (cv_nt x)) y = 0 then 1 else -10 - nI (cv_fp (sl (cv_nt x)) y)) else -1
def cv_n_put (sl : Nat → Option (Nat × Nat)) (sc : Nat → Nat → Int32) (x y z : Int32) : Nat → Nat → Int32 := if cv_in x 4 = true then (match sl (cv_nt x) with
  | none => sc
  | some q => if cv_hs q.2 y (nI 1) = true then cv_ss sc (cv_nt x) (upd (sc (cv_nt x)) (cv_nt y) (cv_ct q.1 z)) else sc) else sc
def cv_f_cell (sl : Nat → Option (Nat × Nat)) (x y z : Int32) : Nat := if cv_in x 4 = true ∧ cv_in z 3 = true then cv_fo (sl (cv_nt x)) z y (nI 1) else 0
def cv_a_cell (sl : Nat → Option (Nat × Nat)) (sc : Nat → Nat → Int32) (x y z : Int32) : Int64 := if cv_in x 4 = true ∧ cv_in z 3 = true ∧ cv_fo (sl (cv_nt x)) z y (nI 1) = 0 then (sc (cv_nt x) (cv_nt y)).toInt64 else (-9223372036854775808)
/-- the fault of a copy -/
def cv_fc (o1 o2 : Option (Nat × Nat)) (y w t : Int32) : Nat := match o1, o2 with
  | some q1, some q2 => if q1.1 = q2.1 then (if cv_hs q1.2 y t = true ∧ cv_hs q2.2 w t = true then 0 else 3) else 2
  | _, _ => 1
abbrev cv_ok_copy (x z : Int32) : Prop := cv_in x 4 = true ∧ cv_in z 4 = true
def cv_f_copy (sl : Nat → Option (Nat × Nat)) (x y z w t : Int32) : Nat := if cv_ok_copy x z then cv_fc (sl (cv_nt x)) (sl (cv_nt z)) y w t else 0
def cv_a_copy (sl : Nat → Option (Nat × Nat)) (x y z w t : Int32) : Int32 := if cv_ok_copy x z then (if cv_fc (sl (cv_nt x)) (sl (cv_nt z)) y w t = 0 then t else -10 - nI (cv_fc (sl (cv_nt x)) (sl (cv_nt z)) y w t)) else -1
def cv_n_copy (sl : Nat → Option (Nat × Nat)) (sc : Nat → Nat → Int32) (x y z w t : Int32) : Nat → Nat → Int32 := if cv_ok_copy x z ∧ cv_fc (sl (cv_nt x)) (sl (cv_nt z)) y w t = 0 then cv_ss sc (cv_nt z) (va_cpy (sc (cv_nt x)) (sc (cv_nt z)) (cv_nt y) (cv_nt w) (cv_nt t)) else sc
theorem cv_u_0k {σ : cv_St} {i k : Nat} {v : Int32} (h : 0 < k) : cv_u σ 0 i v k = σ k := cv_u_c (by omega)
theorem cv_RC_same {tr : Int32} {ft : Nat} {sl sl' : Nat → Option (Nat × Nat)} {sc sc' : Nat → Nat → Int32} {L : cv_L} {rc : Nat} {rd : Nat → Nat} {rn : Nat → Option Nat} {σ : cv_St} (h1 : ∀ k, k < 4 → sl' k = sl k) (h2 : ∀ k, k < 4 → (sl k).isSome = true → ∀ i, i < 60 → sc' k i = sc k i) (hR : cv_RC tr ft sl sc L rc rd rn σ) : cv_RC tr ft sl' sc' L rc rd rn σ := by
  obtain ⟨g1, g2, g3, g4, g5, g6⟩ := hR
  refine ⟨g1, g2, fun k hk => ?_, g4, g5, g6⟩
  rw [h1 k hk]
  exact ⟨(g3 k hk).1, fun h i hi => by rw [h2 k hk h i hi]; exact (g3 k hk).2 h i hi⟩
section CVY
variable {X : cv_X} {own : String} {cc : ByteArray} {nL d : Nat} {σ : cv_St} {pc pc' : Nat} {lv : List (Nat × Value)} {n : Nat} {sh : Nat → cv_Sh} {cells slots : Nat} {a : Nat → Nat} {idx : Nat} {rest : List Value}
theorem cv_acopy (C : cv_Cx X (n, sh, cells, slots, a) own cc nL d) (hp : pc + 3 = pc') {k0 k1 n0 n1 i j t : Nat} (hk0 : k0 < n) (hk1 : k1 < n) (hs0 : sh k0 = .inr (.inl n0)) (hs1 : sh k1 = .inr (.inl n1)) (h0 : i + t ≤ n0) (h1 : j + t ≤ n1) (hn0 : n0 < 2 ^ 31) (hn1 : n1 < 2 ^ 31) (hw1 : Cond.methodLink own idx arraycopyName ∈ cv_BIG) (hdp : 2 ≤ d) (hrm : (rest.map fun v => v.category).sum ≤ 8) (hd : decode cc pc = .ok (.invokestatic idx, 3))
    (k : cv_At X (n, sh, cells, slots, a) nL (cv_uc σ k1 (va_cpy (σ k0) (σ k1) i j t)) pc' lv rest) : cv_At X (n, sh, cells, slots, a) nL σ pc lv (.int (nI t) :: .int (nI j) :: .ref k1 :: .int (nI i) :: .ref k0 :: rest) := by
  subst hp
  obtain ⟨p, l, e, R, s, m, args, below, meth, c, Q, D, A, cA⟩ := X
  obtain ⟨hx, hb, hml, hown, hts, hK, hD, hA, hN, hf, hlo, hcl, hsl⟩ := C
  intro H locs ls hP hS hl
  have he0 := cv_wl_at (sh := sh) (cA := cA) (a := a) (σ := σ) hk0
  have he1 := cv_wl_at (sh := sh) (cA := cA) (a := a) (σ := σ) hk1
  rw [hs0] at he0
  rw [hs1] at he1
  have h8 := cv_sum (a := a) hrm
  have ci : (nI i).toNatClampNeg = i := nI_clamp (by omega)
  have cj : (nI j).toNatClampNeg = j := nI_clamp (by omega)
  have ct : (nI t).toNatClampNeg = t := nI_clamp (by omega)
  have hnf : nativeFrameWords "java/lang/System" "arraycopy" 5 ≤ 40 := by decide +kernel
  refine va_copyi hx hb (by rw [hml]; exact hl.1.symm) hown (hts _ hw1) (hts _ wv_arraycopy) (hts _ wt_arraycopyName) (hts _ wn_J10) hK hP (cv_D_any σ hD) hS k0 k1 0 0 he0 he1 rfl rfl rfl (nI_pos (by omega)) (nI_pos (by omega)) (nI_pos (by omega)) (by rw [ci, ct]; exact h0) (by rw [cj, ct]; exact h1) (fun q hq => rfl) (by omega) (by omega) hd (fun H1 locs1 hP1 hD1 hS1 => ?_)
  refine k H1 locs1 ls ?_ hS1 hl
  rw [ci, cj, ct] at hP1
  rw [cv_wl_set (f := va_cpy (σ k0) (σ k1) i j t) hk1 (by rw [hs1]; rfl)] at hP1
  exact hP1
end CVY
