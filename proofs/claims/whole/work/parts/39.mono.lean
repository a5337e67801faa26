/-! ===== being done: never before the milk, and never later for more days ===== -/
theorem cv_mn_or {a b : Option Nat} {z : Nat} (h : cv_mn a b = some z) : a = some z ∨ b = some z := by
  cases a with
  | none => exact Or.inr h
  | some x => cases b with
    | none => exact Or.inl h
    | some y =>
      simp only [cv_mn, Option.some.injEq] at h
      by_cases q : x ≤ y
      · exact Or.inl (congrArg some (by omega))
      · exact Or.inr (congrArg some (by omega))
theorem cv_G_ge {L : cv_L} (hB : cv_LB L) {x : Int32} {w t : Nat} : ∀ n d v z, 8 - d ≤ n → d < 8 → v < 3 → cv_G L x w t d v = some z → d ≤ z
  | 0, d, v, z, h, hd, _, _ => by omega
  | n + 1, d, v, z, h, hd, hv, hz => by
    rw [cv_G_rec hB hd hv] at hz
    rcases cv_mn_or hz with hz | hz
    · split at hz
      · cases hz; exact Nat.le_refl _
      · cases hz
    · rcases cv_mn_or hz with hz | hz
      · split at hz
        · rename_i q
          have := cv_G_ge hB n (d + 1) v z (by omega) q hv hz
          omega
        · cases hz
      · have hq : ∀ m, m ≤ L 7 0 → cv_qw L x w t d v m = some z → d ≤ z := by
          intro m
          induction m with
          | zero => intro _ h0; cases h0
          | succ m ih =>
            intro hm h0
            simp only [cv_qw] at h0
            rcases cv_mn_or h0 with h0 | h0
            · exact ih (by omega) h0
            · unfold cv_q1 at h0
              split at h0
              · split at h0
                · cases h0
                · rename_i y hy
                  split at h0
                  · rename_i q
                    have h1 := cv_tk_b hB (p := m) (by omega)
                    have h2 := cv_oe_le hB (p := m) (by omega) hy
                    have := cv_G_ge hB n (d + cv_tk L m) y z (by omega) q (by omega) h0
                    omega
                  · cases h0
              · cases h0
        exact hq _ (Nat.le_refl _) hz
theorem cv_so_G (L : cv_L) (x : Int32) (d r t : Nat) : cv_so L x d r t = if (L 6 0).testBit d = true then (cv_G L x 1 r d 0).bind (fun y => cv_G L x 2 t y 1) else none := by
  unfold cv_so cv_dw
  split
  · show (match cv_G L x 1 r d 0 with | none => none | some y => cv_G L x 2 t y 1) = _
    cases cv_G L x 1 r d 0 with
    | none => rfl
    | some y => rfl
  · rfl
theorem cv_so_ge {L : cv_L} (hB : cv_LB L) {x : Int32} {d r t z : Nat} (hd : d < 8) (h : cv_so L x d r t = some z) : d ≤ z := by
  rw [cv_so_G] at h
  split at h
  · cases e : cv_G L x 1 r d 0 with
    | none => rw [e] at h; cases h
    | some y =>
      rw [e] at h
      have h1 := cv_G_ge hB 8 d 0 y (by omega) hd (by decide) e
      have h2 := cv_G_ge hB 8 y 1 z (by omega) (cv_G_lt e) (by decide) h
      omega
  · cases h
theorem cv_can_ge {L : cv_L} (hB : cv_LB L) {x : Int32} {d w r t : Nat} (hd : d < 8) (h : w < d) : cv_can L x d w r t = false := by
  unfold cv_can cv_by
  cases e : cv_so L x d r t with
  | none => rfl
  | some z =>
    have := cv_so_ge hB hd e
    exact decide_eq_false (by omega)
theorem cv_fd_mono {a b z : Nat} (h : ∀ i, i < 8 → a.testBit i = true → b.testBit i = true) (ha : cv_fd a = some z) : ∃ y, y ≤ z ∧ cv_fd b = some y := by
  obtain ⟨h1, h2, h3⟩ := cv_fd_iff.mp ha
  cases e : cv_fd b with
  | none =>
    have := cv_fd_nn.mp e z h1
    rw [h z h1 h2] at this
    cases this
  | some y =>
    obtain ⟨g1, g2, g3⟩ := cv_fd_iff.mp e
    refine ⟨y, ?_, rfl⟩
    by_cases q : z < y
    · have := g3 z q
      rw [h z h1 h2] at this
      cases this
    · omega
theorem cv_G_mono {L : cv_L} {x : Int32} {w t t2 d v z : Nat} (h : ∀ i, i < 8 → t.testBit i = true → t2.testBit i = true) (hz : cv_G L x w t d v = some z) : ∃ y, y ≤ z ∧ cv_G L x w t2 d v = some y := by
  unfold cv_G cv_ft at hz ⊢
  refine cv_fd_mono (fun i hi hb => ?_) hz
  rw [Nat.testBit_and, Bool.and_eq_true] at hb ⊢
  exact ⟨hb.1, h i hi hb.2⟩
theorem cv_mn_eq_le {a b : Option Nat} {z : Nat} (h : cv_mn a b = a) (hb : b = some z) : ∃ y, y ≤ z ∧ a = some y := by
  subst hb
  cases a with
  | none => cases h
  | some y =>
    simp only [cv_mn, Option.some.injEq] at h
    exact ⟨y, by omega, rfl⟩
theorem cv_can_mono {L : cv_L} (hB : cv_LB L) {x : Int32} {d w r r2 t t2 : Nat} (hr : ∀ i, i < 8 → r.testBit i = true → r2.testBit i = true) (ht : ∀ i, i < 8 → t.testBit i = true → t2.testBit i = true) (h : cv_can L x d w r t = true) : cv_can L x d w r2 t2 = true := by
  unfold cv_can at h ⊢
  rw [cv_so_G] at h ⊢
  by_cases hg : (L 6 0).testBit d = true
  · rw [if_pos hg] at h ⊢
    cases e : cv_G L x 1 r d 0 with
    | none => rw [e] at h; cases h
    | some y =>
      rw [e] at h
      obtain ⟨y2, hy, e2⟩ := cv_G_mono hr e
      rw [e2]
      have hy8 := cv_G_lt e
      show cv_by (cv_G L x 2 t2 y2 1) w = true
      have h2 : cv_by (cv_G L x 2 t y 1) w = true := h
      cases f : cv_G L x 2 t y 1 with
      | none => rw [f] at h2; cases h2
      | some z =>
        rw [f] at h2
        have hz : z ≤ w := of_decide_eq_true h2
        have hw := cv_G_w hB (x := x) (w := 2) (t := t) (v := 1) (by decide) (y - y2) y2 (by omega)
        rw [show y2 + (y - y2) = y by omega] at hw
        obtain ⟨z1, hz1, f1⟩ := cv_mn_eq_le hw f
        obtain ⟨z2, hz2, f2⟩ := cv_G_mono ht f1
        rw [f2]
        exact decide_eq_true (by omega)
  · rw [if_neg hg] at h
    cases h
theorem cv_clr_bit {g k i : Nat} (h : (cv_clr g k).testBit i = true) : g.testBit i = true := by
  unfold cv_clr at h
  rw [Nat.testBit_and, Bool.and_eq_true] at h
  exact h.1
theorem cv_clr_8 {g : Nat} (hg : g < 256) : cv_clr g 8 = g := by
  have : ∀ g : Fin 256, cv_clr g.val 8 = g.val := by decide +kernel
  exact this ⟨g, hg⟩
/-- one day less of each, or none less: the same -/
theorem cv_safe_81 {L : cv_L} (hB : cv_LB L) {x : Int32} {d w r t : Nat} (hr : r < 256) (ht : t < 256) : cv_al (fun h => cv_can L x d w (cv_clr r (h / 9)) (cv_clr t (h % 9))) 81 = cv_al (fun h => cv_can L x d w (cv_clr r (h / 8)) (cv_clr t (h % 8))) 64 := by
  rw [Bool.eq_iff_iff, cv_al_iff, cv_al_iff]
  constructor
  · intro h k hk
    have := h (9 * (k / 8) + k % 8) (by omega)
    rw [show (9 * (k / 8) + k % 8) / 9 = k / 8 by omega, show (9 * (k / 8) + k % 8) % 9 = k % 8 by omega] at this
    exact this
  · intro h k hk
    have h1 : ∀ (g a : Nat), g < 256 → a < 9 → ∀ i, i < 8 → (cv_clr g (a % 8)).testBit i = true → (cv_clr g a).testBit i = true := by
      intro g a hg ha i _ hi
      by_cases e : a = 8
      · subst e
        rw [cv_clr_8 hg]
        exact cv_clr_bit hi
      · rw [show a % 8 = a by omega] at hi
        exact hi
    have := h (8 * (k / 9 % 8) + k % 9 % 8) (by omega)
    rw [show (8 * (k / 9 % 8) + k % 9 % 8) / 8 = k / 9 % 8 by omega, show (8 * (k / 9 % 8) + k % 9 % 8) % 8 = k % 9 % 8 by omega] at this
    exact cv_can_mono hB (h1 r (k / 9) hr (by omega)) (h1 t (k % 9) ht (by omega)) this
/-- the last, of those not after the fair -/
theorem cv_la_to {P : Nat → Bool} {w : Nat} (h : ∀ d, d < 8 → w < d → P d = false) : ∀ n, n ≤ 8 → w + 1 ≤ n → cv_la P n = cv_la P (w + 1)
  | 0, _, h1 => by omega
  | n + 1, hn, h1 => by
    by_cases e : n = w
    · rw [e]
    · simp only [cv_la]
      rw [if_neg (by rw [h n (by omega) (by omega)]; decide)]
      exact cv_la_to h n (by omega) (by omega)
