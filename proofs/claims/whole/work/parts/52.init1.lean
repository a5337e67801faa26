/-- the class's ints at the start: sheets have nothing -/
def cv_s0 : cv_St := fun k => match k with
  | 2 => fun i => match i with | 1 => -1 | _ => 0
  | 3 => fun i => match i with | 1 => -1 | _ => 0
  | 4 => fun i => match i with | 1 => -1 | _ => 0
  | 5 => fun i => match i with | 1 => -1 | _ => 0
  | _ => fun _ => 0
theorem cv_mp (l l' : List Nat) (a : Nat → Nat) (h : l = l'.map a) : (fun i : Nat => l[i]?) = fun i : Nat => (l'[i]?).map a := by
  subst h
  funext i
  rw [List.getElem?_map]
def cv_mz {α β : Type} (f : Nat → α → β) : Nat → List α → List β
  | _, [] => []
  | i, x :: l => f i x :: cv_mz f (i + 1) l
theorem cv_mxi {α β : Type} (f : Nat → α → β) : ∀ (l : List α) (i : Nat), l.mapIdx (fun j => f (i + j)) = cv_mz f i l
  | [], _ => rfl
  | x :: l, i => by
    rw [List.mapIdx_cons]
    simp only [cv_mz, Nat.add_zero]
    rw [← cv_mxi f l (i + 1)]
    congr 1
    congr 1
    funext j
    rw [show i + 1 + j = i + (j + 1) by omega]
theorem cv_obj {cA : Nat → ClassId} {a : Nat → Nat} {f : Nat → Int32} {ci : Nat} {l : List (Option Nat)} {fs : List Value} (h : cv_mz (cv_fv a f) 0 l = fs) : (.inr (ci, fs) : va_E) = cv_E cA a (.inl (ci, l)) f := by
  have e := cv_mxi (cv_fv a f) l 0
  simp only [Nat.zero_add] at e
  show _ = (Sum.inr (ci, l.mapIdx (cv_fv a f)) : va_E)
  rw [show l.mapIdx (cv_fv a f) = cv_mz (cv_fv a f) 0 l from e, h]
theorem cv_wl_eq {n : Nat} {sh : Nat → cv_Sh} {cA : Nat → ClassId} {a : Nat → Nat} {σ : cv_St} {l : va_W} (hl : l.length = n) (h : ∀ k, k < n → l[k]? = some (a k, cv_E cA a (sh k) (σ k))) : cv_wl n sh cA a σ = l := by
  apply List.ext_getElem?
  intro k
  by_cases hk : k < n
  · rw [cv_wl_at hk, h k hk]
  · rw [List.getElem?_eq_none (by rw [cv_wl_len]; omega), List.getElem?_eq_none (by omega)]
