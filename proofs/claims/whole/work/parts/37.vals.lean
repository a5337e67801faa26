/-! ===== the values of places: holes ===== -/
theorem cv_FT_ne {L : cv_L} {k j : Nat} (hj : ¬ j / 6 = 7 - k) : cv_FT L (k + 1) j = cv_FT L k j := by
  simp only [cv_FT]
  unfold cv_F0
  rw [if_neg (fun q => hj q.1)]
  unfold cv_F1
  rw [if_neg (fun q => hj q.1)]
theorem cv_FT_st {L : cv_L} {j : Nat} (hj : j / 6 ≤ 7) : ∀ k, 8 - j / 6 ≤ k → k ≤ 8 → cv_FT L k j = cv_FT L (8 - j / 6) j
  | 0, h1, _ => by omega
  | k + 1, h1, h2 => by
    by_cases e : 8 - j / 6 = k + 1
    · rw [e]
    · rw [cv_FT_ne (by omega), cv_FT_st hj k (by omega) (by omega)]
theorem cv_hf_congr {L : cv_L} (hB : cv_LB L) {g g2 : Nat → Option Nat} {d s v : Nat} (hs : s < 2) (hv : v < 3) (hd : d < 8) (h1 : ∀ i, i < 48 → d < i / 6 → g i = g2 i) (h2 : s = 0 → ∀ i, i < 48 → i / 6 = d → i / 3 % 2 = 1 → g i = g2 i) : cv_hf L g d s v = cv_hf L g2 d s v := by
  have a0 : cv_h0 g d s v = cv_h0 g2 d s v := by
    unfold cv_h0
    by_cases e : d < 7
    · rw [if_pos e, if_pos e, h1 _ (by omega) (by omega)]
    · rw [if_neg e, if_neg e]
  have a1 : cv_h1 L g d s v = cv_h1 L g2 d s v := by
    unfold cv_h1
    rw [a0]
    by_cases e : s = 0 ∧ v = 1 ∧ (L 6 1).testBit d = true
    · rw [if_pos e, if_pos e, h2 e.1 _ (by omega) (by omega) (by omega)]
    · rw [if_neg e, if_neg e]
  have al : ∀ k, k ≤ L 7 0 → cv_hl L g d s v k = cv_hl L g2 d s v k := by
    intro k
    induction k with
    | zero => exact fun _ => a1
    | succ k ih =>
      intro hk
      simp only [cv_hl]
      rw [ih (by omega)]
      have : cv_hc L g d s v k = cv_hc L g2 d s v k := by
        unfold cv_hc
        cases hc : cv_ar L k v d with
        | none => rfl
        | some c =>
          dsimp only
          obtain ⟨w, hw⟩ := cv_ar_oe hc
          have b1 := cv_ar_le hc
          have b2 := cv_ar_gt hB (by omega) hc
          have b3 := cv_oe_le hB (by omega) hw
          rw [hw]
          dsimp only [Option.getD]
          exact h1 _ (by omega) (by omega)
      rw [this]
  unfold cv_hf
  rw [al _ (Nat.le_refl _)]
theorem cv_FT_8 {L : cv_L} (hB : cv_LB L) {d s v : Nat} (hd : d < 8) (hs : s < 2) (hv : v < 3) : cv_FT L 8 ((d * 2 + s) * 3 + v) = cv_hf L (cv_FT L 8) d s v := by
  have hst : ∀ i, i < 48 → d < i / 6 → cv_FT L (7 - d) i = cv_FT L 8 i := fun i h1 h2 => by
    rw [cv_FT_st (by omega) (7 - d) (by omega) (by omega), cv_FT_st (by omega) 8 (by omega) (Nat.le_refl _)]
  have h8 : ∀ j, j / 6 = d → cv_FT L 8 j = cv_F0 L (cv_F1 L (cv_FT L (7 - d)) d) d j := fun j hj => by
    rw [cv_FT_st (by omega) 8 (by omega) (Nat.le_refl _), hj, show 8 - d = (7 - d) + 1 by omega]
    simp only [cv_FT]
    rw [show 7 - (7 - d) = d by omega]
  have hone : ∀ j, j / 6 = d → j / 3 % 2 = 1 → cv_FT L 8 j = cv_F1 L (cv_FT L (7 - d)) d j := fun j hj h1 => by
    rw [h8 j hj]
    unfold cv_F0
    rw [if_neg (by omega)]
  by_cases e : s = 0
  · subst e
    rw [h8 _ (by omega)]
    unfold cv_F0
    rw [if_pos ⟨by omega, by omega⟩, show ((d * 2 + 0) * 3 + v) % 3 = v by omega]
    refine cv_hf_congr hB (by decide) hv hd (fun i a b => ?_) (fun _ i a b c => ?_)
    · unfold cv_F1
      rw [if_neg (by omega)]
      exact hst i a b
    · exact (hone i b c).symm
  · have es : s = 1 := by omega
    subst es
    rw [hone _ (by omega) (by omega)]
    unfold cv_F1
    rw [if_pos ⟨by omega, by omega⟩, show ((d * 2 + 1) * 3 + v) % 3 = v by omega]
    exact cv_hf_congr hB (by decide) hv hd hst (fun q => by omega)
theorem cv_map_mn (a b : Option Nat) (h : Nat) : (cv_mn a b).map (h + ·) = cv_mn (a.map (h + ·)) (b.map (h + ·)) := by
  cases a <;> cases b <;> simp [cv_mn] <;> omega
theorem cv_mn_ge {h : Nat} {o : Option Nat} (ho : ∀ z, o = some z → h ≤ z) : cv_mn (some h) o = some h := by
  cases o with
  | none => rfl
  | some z => simp only [cv_mn]; rw [Nat.min_eq_left (ho z rfl)]
def cv_WH (L : cv_L) : cv_VT := fun d v r h => (cv_FT L 8 ((d * 2 + r) * 3 + v)).map (h + ·)
theorem cv_WH_ge {L : cv_L} {d v r h z : Nat} (hz : cv_WH L d v r h = some z) : h ≤ z := by
  unfold cv_WH at hz
  cases hF : cv_FT L 8 ((d * 2 + r) * 3 + v) with
  | none => rw [hF] at hz; cases hz
  | some y => rw [hF] at hz; cases hz; exact Nat.le_add_right _ _
theorem cv_p1_hc {L : cv_L} {x : Int32} {d v r h p : Nat} (hx : ¬ nI p = x) : (cv_hc L (cv_FT L 8) d r v p).map (h + ·) = cv_p1 L x (cv_WH L) d v r h p := by
  unfold cv_hc cv_p1 cv_ar
  rw [decide_eq_true hx, Bool.true_and]
  cases ho : cv_oe L p v with
  | none => simp
  | some w =>
    cases hop : cv_op L p d with
    | false => simp
    | true =>
      by_cases e : d + cv_tk L p ≤ 7
      · rw [if_neg (by simp), if_pos e, if_pos rfl]
        dsimp only
        rw [if_pos (by omega)]
        rfl
      · rw [if_neg (by simp), if_neg e, if_pos rfl]
        dsimp only
        rw [if_neg (by omega)]
        rfl
theorem cv_WR_H {L : cv_L} (hB : cv_LB L) {x : Int32} (hx : ∀ p, p < L 7 0 → ¬ nI p = x) : cv_WR L x (cv_WH L) (fun _ h => some h) := by
  refine ⟨fun d v r h h2 => ?_, fun d v r h hd hv hr => ?_⟩
  · unfold cv_WH
    cases cv_FT L 8 ((d * 2 + r) * 3 + v) with
    | none => rfl
    | some z => simp [cv_mn]
  · have hl : ∀ n, n ≤ L 7 0 → (cv_hl L (cv_FT L 8) d r v n).map (h + ·) = cv_mn ((cv_h1 L (cv_FT L 8) d r v).map (h + ·)) (cv_pw L x (cv_WH L) d v r h n) := by
      intro n
      induction n with
      | zero => intro _; exact (cv_mn_1 _).symm
      | succ n ih =>
        intro hn
        simp only [cv_hl, cv_pw]
        rw [cv_map_mn, ih (by omega), cv_p1_hc (hx n (by omega)), cv_mn_as]
    have h0 : (cv_h0 (cv_FT L 8) d r v).map (h + ·) = cv_wt (cv_WH L) d v r h := by
      unfold cv_h0 cv_wt cv_WH
      by_cases e : d < 7
      · rw [if_pos e, if_pos (by omega)]
        cases cv_FT L 8 (((d + 1) * 2 + r) * 3 + v) with
        | none => rfl
        | some z => simp; omega
      · rw [if_neg e, if_neg (by omega)]; rfl
    have hpw : ∀ n z, cv_pw L x (cv_WH L) d v r h n = some z → h ≤ z := by
      intro n
      induction n with
      | zero => intro z hz; cases hz
      | succ n ih =>
        intro z hz
        simp only [cv_pw] at hz
        cases ha : cv_pw L x (cv_WH L) d v r h n with
        | none =>
          rw [ha, cv_mn_0] at hz
          unfold cv_p1 at hz
          split at hz
          · split at hz
            · cases hz
            · split at hz
              · exact cv_WH_ge hz
              · cases hz
          · cases hz
        | some a =>
          have a1 := ih a ha
          rw [ha] at hz
          cases hb : cv_p1 L x (cv_WH L) d v r h n with
          | none => rw [hb] at hz; cases hz; exact a1
          | some b =>
            have b1 : h ≤ b := by
              unfold cv_p1 at hb
              split at hb
              · split at hb
                · cases hb
                · split at hb
                  · exact cv_WH_ge hb
                  · cases hb
              · cases hb
            rw [hb] at hz
            simp only [cv_mn, Option.some.injEq] at hz
            omega
    show (cv_FT L 8 ((d * 2 + r) * 3 + v)).map (h + ·) = _
    rw [cv_FT_8 hB hd hr hv]
    unfold cv_hf
    by_cases e : r = 1 ∧ v = 2 ∧ (L 6 2).testBit d = true
    · rw [if_pos e]
      have : cv_rt L (cv_WH L) (fun _ h => some h) d v r h = some h := by
        unfold cv_rt
        rw [if_pos e.1, if_pos e.2]
      show some (h + 0) = _
      rw [Nat.add_zero, this]
      refine (cv_mn_ge (fun z hz => ?_)).symm
      cases ha : cv_wt (cv_WH L) d v r h with
      | none => rw [ha, cv_mn_0] at hz; exact hpw _ z hz
      | some a =>
        have a1 : h ≤ a := by
          unfold cv_wt at ha
          split at ha
          · have := cv_WH_ge ha; omega
          · cases ha
        rw [ha] at hz
        cases hb : cv_pw L x (cv_WH L) d v r h (L 7 0) with
        | none => rw [hb] at hz; cases hz; exact a1
        | some b =>
          have b1 := hpw _ b hb
          rw [hb] at hz
          simp only [cv_mn, Option.some.injEq] at hz
          omega
    · rw [if_neg e, hl _ (Nat.le_refl _), ← cv_mn_as]
      congr 1
      unfold cv_h1 cv_rt
      by_cases q : r = 1
      · rw [if_neg (by omega), if_pos q, if_neg (fun z => e ⟨q, z⟩), cv_mn_0, h0]
      · rw [if_neg q]
        by_cases q2 : v = 1 ∧ (L 6 1).testBit d = true
        · rw [if_pos ⟨by omega, q2⟩, if_pos q2, cv_map_mn, h0, cv_mn_c]
          congr 1
          rw [q2.1]
          rfl
        · rw [if_neg (fun z => q2 z.2), if_neg q2, cv_mn_0, h0]
theorem cv_holes_eq {L : cv_L} (hB : cv_LB L) {f : Nat} (hf : f < 8) : (cv_mw L (-9) f).2.2 = cv_fh L f := by
  have h6 := hB.1
  rw [cv_mw_dh hB (cv_WR_H hB (fun p hp => cv_m9 (by omega))) hf]
  unfold cv_fh cv_WH
  have e : cv_FT L (8 - f) ((f * 2 + 0) * 3 + 0) = cv_FT L 8 ((f * 2 + 0) * 3 + 0) := by
    rw [cv_FT_st (by omega) 8 (by omega) (Nat.le_refl _)]
    rw [show ((f * 2 + 0) * 3 + 0) / 6 = f by omega]
  rw [e]
  cases cv_FT L 8 ((f * 2 + 0) * 3 + 0) with
  | none => rfl
  | some z => simp
/-! ===== the values of places: the first day ===== -/
theorem cv_rc_congr {L : cv_L} (hB : cv_LB L) {cl : Nat → Bool} {g g2 : Nat → Nat} {v d p : Nat} (hp : p < L 7 0) (hg : ∀ i, i < 24 → d < i / 3 → g i = g2 i) : cv_rc L cl g v d p = cv_rc L cl g2 v d p := by
  unfold cv_rc
  split
  · rfl
  · cases hc : cv_ar L p v d with
    | none => rfl
    | some c =>
      dsimp only
      obtain ⟨w, hw⟩ := cv_ar_oe hc
      have b1 := cv_ar_le hc
      have b2 := cv_ar_gt hB hp hc
      have b3 := cv_oe_le hB hp hw
      rw [hw]
      dsimp only [Option.getD]
      exact hg _ (by omega) (by omega)
theorem cv_rv_congr {L : cv_L} (hB : cv_LB L) {cl : Nat → Bool} {g g2 : Nat → Nat} {v d : Nat} (hv : v < 3) (hd : d < 8) (hg : ∀ i, i < 24 → d < i / 3 → g i = g2 i) : cv_rv L cl g v d = cv_rv L cl g2 v d := by
  unfold cv_rv
  have e : (if d < 7 then 2 ^ (8 * v + d) ||| g ((d + 1) * 3 + v) else 2 ^ (8 * v + d)) = (if d < 7 then 2 ^ (8 * v + d) ||| g2 ((d + 1) * 3 + v) else 2 ^ (8 * v + d)) := by
    by_cases q : d < 7
    · rw [if_pos q, if_pos q, hg _ (by omega) (by omega)]
    · rw [if_neg q, if_neg q]
  rw [e]
  generalize (if d < 7 then 2 ^ (8 * v + d) ||| g2 ((d + 1) * 3 + v) else 2 ^ (8 * v + d)) = i0
  have : ∀ n, n ≤ L 7 0 → cv_rl L cl g v d i0 n = cv_rl L cl g2 v d i0 n := by
    intro n
    induction n with
    | zero => intro _; rfl
    | succ n ih =>
      intro hn
      simp only [cv_rl]
      rw [ih (by omega), cv_rc_congr hB (by omega) hg]
  exact this _ (Nat.le_refl _)
theorem cv_RT_st {L : cv_L} {cl : Nat → Bool} {j : Nat} (hj : j / 3 ≤ 7) : ∀ k, 8 - j / 3 ≤ k → k ≤ 8 → cv_RT L cl k j = cv_RT L cl (8 - j / 3) j
  | 0, h1, _ => by omega
  | k + 1, h1, h2 => by
    by_cases e : 8 - j / 3 = k + 1
    · rw [e]
    · have : cv_RT L cl (k + 1) j = cv_RT L cl k j := by
        simp only [cv_RT]
        rw [if_neg (by omega)]
      rw [this, cv_RT_st hj k (by omega) (by omega)]
theorem cv_RT_8 {L : cv_L} (hB : cv_LB L) {cl : Nat → Bool} {d v : Nat} (hd : d < 8) (hv : v < 3) : cv_RT L cl 8 (d * 3 + v) = cv_rv L cl (cv_RT L cl 8) v d := by
  rw [cv_RT_st (by omega) 8 (by omega) (Nat.le_refl _), show 8 - (d * 3 + v) / 3 = (7 - d) + 1 by omega]
  simp only [cv_RT]
  rw [if_pos (by omega), show (d * 3 + v) % 3 = v by omega, show 7 - (7 - d) = d by omega]
  refine cv_rv_congr hB hv hd (fun i h1 h2 => ?_)
  rw [cv_RT_st (by omega) (7 - d) (by omega) (by omega)]
  exact (cv_RT_st (by omega) 8 (by omega) (Nat.le_refl _)).symm
/-- the first day of a set, by bits -/
theorem cv_fd_iff {t k : Nat} : cv_fd t = some k ↔ k < 8 ∧ t.testBit k = true ∧ ∀ i, i < k → t.testBit i = false := by
  constructor
  · intro h
    have h0 := h
    unfold cv_fd at h
    rw [List.find?_range_eq_some] at h
    exact ⟨cv_fd_lt h0, h.1, fun i hi => by simpa using h.2.2 i hi⟩
  · rintro ⟨h1, h2, h3⟩
    exact cv_fd_some h1 h2 h3
theorem cv_fd_nn {t : Nat} : cv_fd t = none ↔ ∀ i, i < 8 → t.testBit i = false := by
  constructor
  · intro h i hi
    unfold cv_fd at h
    rw [List.find?_eq_none] at h
    simpa using h i (List.mem_range.mpr hi)
  · exact cv_fd_none
theorem cv_fd_or (a b : Nat) : cv_fd (a ||| b) = cv_mn (cv_fd a) (cv_fd b) := by
  cases ha : cv_fd a with
  | none =>
    have h1 := cv_fd_nn.mp ha
    rw [cv_mn_0]
    cases hb : cv_fd b with
    | none => exact cv_fd_none (fun i hi => by rw [Nat.testBit_or, h1 i hi, cv_fd_nn.mp hb i hi]; rfl)
    | some k =>
      obtain ⟨k1, k2, k3⟩ := cv_fd_iff.mp hb
      exact cv_fd_some k1 (by rw [Nat.testBit_or, k2, Bool.or_true]) (fun i hi => by rw [Nat.testBit_or, h1 i (by omega), k3 i hi]; rfl)
  | some x =>
    obtain ⟨x1, x2, x3⟩ := cv_fd_iff.mp ha
    cases hb : cv_fd b with
    | none =>
      have h1 := cv_fd_nn.mp hb
      exact cv_fd_some x1 (by rw [Nat.testBit_or, x2, Bool.true_or]) (fun i hi => by rw [Nat.testBit_or, x3 i hi, h1 i (by omega)]; rfl)
    | some y =>
      obtain ⟨y1, y2, y3⟩ := cv_fd_iff.mp hb
      show cv_fd (a ||| b) = some (min x y)
      refine cv_fd_some (by omega) ?_ (fun i hi => by rw [Nat.testBit_or, x3 i (by omega), y3 i (by omega)]; rfl)
      rw [Nat.testBit_or]
      rcases Nat.le_total x y with q | q
      · rw [Nat.min_eq_left q, x2, Bool.true_or]
      · rw [Nat.min_eq_right q, y2, Bool.or_true]
def cv_ft (w t n : Nat) : Option Nat := cv_fd (n / 2 ^ (8 * w) &&& t)
theorem cv_ft_bit (w t n i : Nat) : (n / 2 ^ (8 * w) &&& t).testBit i = (n.testBit (8 * w + i) && t.testBit i) := by
  rw [Nat.testBit_and, Nat.testBit_div_two_pow, Nat.add_comm]
theorem cv_ft_or (w t a b : Nat) : cv_ft w t (a ||| b) = cv_mn (cv_ft w t a) (cv_ft w t b) := by
  unfold cv_ft
  rw [← cv_fd_or]
  congr 1
  apply Nat.eq_of_testBit_eq
  intro i
  rw [cv_ft_bit, Nat.testBit_or, Nat.testBit_or, cv_ft_bit, cv_ft_bit, Bool.and_or_distrib_right]
theorem cv_ft_0 (w t : Nat) : cv_ft w t 0 = none := cv_fd_none (fun i _ => by rw [cv_ft_bit]; simp)
theorem cv_ft_p {w t v d : Nat} (hd : d < 8) : cv_ft w t (2 ^ (8 * v + d)) = if v = w ∧ t.testBit d = true then some d else none := by
  by_cases e : v = w
  · subst e
    cases ht : t.testBit d with
    | true =>
      rw [if_pos ⟨rfl, rfl⟩]
      refine cv_fd_some hd ?_ (fun i hi => ?_)
      · rw [cv_ft_bit, Nat.testBit_two_pow_self, ht]; rfl
      · rw [cv_ft_bit, Nat.testBit_two_pow_of_ne (by omega)]; rfl
    | false =>
      rw [if_neg (by simp)]
      refine cv_fd_none (fun i hi => ?_)
      rw [cv_ft_bit]
      by_cases q : i = d
      · rw [q, ht, Bool.and_false]
      · rw [Nat.testBit_two_pow_of_ne (by omega)]; rfl
  · rw [if_neg (fun q => e q.1)]
    refine cv_fd_none (fun i hi => ?_)
    rw [cv_ft_bit, Nat.testBit_two_pow_of_ne (by omega)]
    rfl
/-- where a chart's place can come first in valley w on a day of t -/
def cv_G (L : cv_L) (x : Int32) (w t d v : Nat) : Option Nat := cv_ft w t (cv_RT L (fun q => decide (nI q = x)) 8 (d * 3 + v))
def cv_q1 (L : cv_L) (x : Int32) (w t d v p : Nat) : Option Nat := if (decide (¬ nI p = x) && cv_op L p d) = true then (match cv_oe L p v with
  | none => none
  | some y => if d + cv_tk L p < 8 then cv_G L x w t (d + cv_tk L p) y else none) else none
def cv_qw (L : cv_L) (x : Int32) (w t d v : Nat) : Nat → Option Nat
  | 0 => none
  | n + 1 => cv_mn (cv_qw L x w t d v n) (cv_q1 L x w t d v n)
theorem cv_G_rec {L : cv_L} (hB : cv_LB L) {x : Int32} {w t d v : Nat} (hd : d < 8) (hv : v < 3) : cv_G L x w t d v = cv_mn (if v = w ∧ t.testBit d = true then some d else none) (cv_mn (if d + 1 < 8 then cv_G L x w t (d + 1) v else none) (cv_qw L x w t d v (L 7 0))) := by
  have hone : ∀ p, cv_ft w t (cv_rc L (fun q => decide (nI q = x)) (cv_RT L (fun q => decide (nI q = x)) 8) v d p) = cv_q1 L x w t d v p := by
    intro p
    unfold cv_rc cv_q1 cv_ar
    by_cases e : nI p = x
    · rw [if_pos (by simp [e]), if_neg (by simp [e]), cv_ft_0]
    · rw [if_neg (by simp [e]), decide_eq_true e, Bool.true_and]
      cases ho : cv_oe L p v with
      | none =>
        rw [if_pos (Or.inl rfl)]
        dsimp only
        rw [cv_ft_0]
        split <;> rfl
      | some y =>
        cases hop : cv_op L p d with
        | false => rw [if_pos (Or.inr rfl)]; dsimp only; rw [cv_ft_0]; rfl
        | true =>
          by_cases q : d + cv_tk L p ≤ 7
          · rw [if_neg (by simp), if_pos q, if_pos rfl]
            dsimp only
            rw [if_pos (by omega)]
            rfl
          · rw [if_neg (by simp), if_neg q, if_pos rfl]
            dsimp only
            rw [if_neg (by omega), cv_ft_0]
  have hrl : ∀ i0 n, cv_ft w t (cv_rl L (fun q => decide (nI q = x)) (cv_RT L (fun q => decide (nI q = x)) 8) v d i0 n) = cv_mn (cv_ft w t i0) (cv_qw L x w t d v n) := by
    intro i0 n
    induction n with
    | zero => exact (cv_mn_1 _).symm
    | succ n ih =>
      simp only [cv_rl, cv_qw]
      rw [cv_ft_or, ih, hone, cv_mn_as]
  show cv_ft w t (cv_RT L (fun q => decide (nI q = x)) 8 (d * 3 + v)) = _
  rw [cv_RT_8 hB hd hv]
  unfold cv_rv
  rw [hrl]
  by_cases e : d < 7
  · rw [if_pos e, if_pos (show d + 1 < 8 by omega), cv_ft_or, cv_ft_p hd, cv_mn_as]
    rfl
  · rw [if_neg e, if_neg (show ¬ d + 1 < 8 by omega), cv_ft_p hd, cv_mn_0]
theorem cv_G_lt {L : cv_L} {x : Int32} {w t d v z : Nat} (h : cv_G L x w t d v = some z) : z < 8 := cv_fd_lt h
/-- waiting costs nothing but days -/
theorem cv_G_w {L : cv_L} (hB : cv_LB L) {x : Int32} {w t v : Nat} (hv : v < 3) : ∀ n a, a + n < 8 → cv_mn (cv_G L x w t a v) (cv_G L x w t (a + n) v) = cv_G L x w t a v
  | 0, a, _ => cv_mn_i _
  | n + 1, a, h => by
    have h1 := cv_G_w hB (x := x) (w := w) (t := t) hv n (a + 1) (by omega)
    have h2 : cv_mn (cv_G L x w t a v) (cv_G L x w t (a + 1) v) = cv_G L x w t a v := by
      rw [cv_G_rec hB (d := a) (by omega) hv, if_pos (show a + 1 < 8 by omega)]
      generalize (if v = w ∧ t.testBit a = true then some a else none) = b1
      generalize cv_G L x w t (a + 1) v = b2
      generalize cv_qw L x w t a v (L 7 0) = b3
      rw [cv_mn_as, cv_mn_as, cv_mn_c b3 b2, ← cv_mn_as b2 b2, cv_mn_i]
    rw [show a + (n + 1) = a + 1 + n by omega]
    rw [← h2, cv_mn_as, h1]
theorem cv_bind_mn {L : cv_L} (hB : cv_LB L) {x : Int32} {t : Nat} {a b : Option Nat} (ha : ∀ z, a = some z → z < 8) (hb : ∀ z, b = some z → z < 8) : (cv_mn a b).bind (fun y => cv_G L x 2 t y 1) = cv_mn (a.bind (fun y => cv_G L x 2 t y 1)) (b.bind (fun y => cv_G L x 2 t y 1)) := by
  cases a with
  | none => rfl
  | some y =>
    cases b with
    | none => exact (cv_mn_1 _).symm
    | some z =>
      show cv_G L x 2 t (min y z) 1 = cv_mn (cv_G L x 2 t y 1) (cv_G L x 2 t z 1)
      rcases Nat.le_total y z with q | q
      · have := cv_G_w hB (x := x) (w := 2) (t := t) (v := 1) (by decide) (z - y) y (by have := hb z rfl; omega)
        rw [show y + (z - y) = z by omega] at this
        rw [Nat.min_eq_left q, this]
      · have := cv_G_w hB (x := x) (w := 2) (t := t) (v := 1) (by decide) (y - z) z (by have := ha y rfl; omega)
        rw [show z + (y - z) = y by omega] at this
        rw [Nat.min_eq_right q, cv_mn_c, this]
def cv_WS (L : cv_L) (x : Int32) : cv_VT := fun d v r _ => if r = 1 then cv_G L x 2 (L 6 2) d v else (cv_G L x 1 (L 6 1) d v).bind (fun y => cv_G L x 2 (L 6 2) y 1)
theorem cv_WR_S {L : cv_L} (hB : cv_LB L) {x : Int32} : cv_WR L x (cv_WS L x) (fun d _ => some d) := by
  refine ⟨fun d v r h h2 => (cv_mn_i _).symm, fun d v r h hd hv hr => ?_⟩
  by_cases e : r = 1
  · subst e
    have hp : ∀ n, cv_pw L x (cv_WS L x) d v 1 h n = cv_qw L x 2 (L 6 2) d v n := by
      intro n
      induction n with
      | zero => rfl
      | succ n ih =>
        simp only [cv_pw, cv_qw]
        rw [ih]
        congr 1
    rw [hp]
    show cv_G L x 2 (L 6 2) d v = _
    rw [cv_G_rec hB hd hv]
    rfl
  · have er : r = 0 := by omega
    subst er
    have hlt : ∀ n z, cv_qw L x 1 (L 6 1) d v n = some z → z < 8 := by
      intro n
      induction n with
      | zero => intro z hz; cases hz
      | succ n ih =>
        intro z hz
        simp only [cv_qw] at hz
        have h1 : ∀ z, cv_q1 L x 1 (L 6 1) d v n = some z → z < 8 := by
          intro z hz
          unfold cv_q1 at hz
          split at hz
          · split at hz
            · cases hz
            · split at hz
              · exact cv_G_lt hz
              · cases hz
          · cases hz
        have := cv_mn_le (n := 7) (fun z hz => Nat.le_of_lt_succ (ih z hz)) (fun z hz => Nat.le_of_lt_succ (h1 z hz)) z hz
        omega
    have hq1 : ∀ n z, cv_q1 L x 1 (L 6 1) d v n = some z → z < 8 := by
      intro n z hz
      unfold cv_q1 at hz
      split at hz
      · split at hz
        · cases hz
        · split at hz
          · exact cv_G_lt hz
          · cases hz
      · cases hz
    have hp : ∀ n, cv_pw L x (cv_WS L x) d v 0 h n = (cv_qw L x 1 (L 6 1) d v n).bind (fun y => cv_G L x 2 (L 6 2) y 1) := by
      intro n
      induction n with
      | zero => rfl
      | succ n ih =>
        simp only [cv_pw, cv_qw]
        rw [cv_bind_mn hB (hlt n) (hq1 n), ih]
        congr 1
        unfold cv_p1 cv_q1
        split
        · cases cv_oe L n v with
          | none => rfl
          | some y => dsimp only; split <;> rfl
        · rfl
    rw [hp]
    show (cv_G L x 1 (L 6 1) d v).bind (fun y => cv_G L x 2 (L 6 2) y 1) = _
    rw [cv_G_rec hB hd hv]
    have hw : ∀ z, (if d + 1 < 8 then cv_G L x 1 (L 6 1) (d + 1) v else none) = some z → z < 8 := by
      intro z hz
      split at hz
      · exact cv_G_lt hz
      · cases hz
    have hi : ∀ z, (if v = 1 ∧ (L 6 1).testBit d = true then some d else none) = some z → z < 8 := by
      intro z hz
      split at hz
      · cases hz
        exact hd
      · cases hz
    rw [cv_bind_mn hB hi (fun z hz => by have := cv_mn_le (n := 7) (fun z hz => Nat.le_of_lt_succ (hw z hz)) (fun z hz => Nat.le_of_lt_succ (hlt _ z hz)) z hz; omega), cv_bind_mn hB hw (hlt _)]
    congr 1
    · unfold cv_rt cv_WS
      rw [if_neg (show ¬ 0 = 1 by decide)]
      by_cases e2 : v = 1 ∧ (L 6 1).testBit d = true
      · rw [if_pos e2, if_pos e2, if_pos rfl]
        rfl
      · rw [if_neg e2, if_neg e2]
        rfl
    · congr 1
      unfold cv_wt cv_WS
      split
      · rfl
      · rfl
theorem cv_soon_eq {L : cv_L} (hB : cv_LB L) {x : Int32} {f : Nat} (hf : f < 8) : (cv_mw L x f).2.1 = cv_so L x f (L 6 1) (L 6 2) := by
  rw [cv_mw_dn hB (cv_WR_S hB) hf]
  unfold cv_so cv_dw
  split
  · show (cv_G L x 1 (L 6 1) f 0).bind (fun y => cv_G L x 2 (L 6 2) y 1) = _
    have e1 : ∀ w t d v, cv_fi (cv_RT L (fun q => decide (nI q = x)) 8) w v d t = cv_G L x w t d v := fun _ _ _ _ => rfl
    rw [e1]
    cases cv_G L x 1 (L 6 1) f 0 with
    | none => rfl
    | some y => rfl
  · rfl
/-- a number that is no pass closes none -/
theorem cv_RT_cl {L : cv_L} {cl c2 : Nat → Bool} (h : ∀ p, p < L 7 0 → cl p = c2 p) : ∀ k j, cv_RT L cl k j = cv_RT L c2 k j := by
  have hrl : ∀ (f : Nat → Nat) v d i0 n, n ≤ L 7 0 → cv_rl L cl f v d i0 n = cv_rl L c2 f v d i0 n := by
    intro f v d i0 n
    induction n with
    | zero => intro _; rfl
    | succ n ih =>
      intro hn
      simp only [cv_rl]
      rw [ih (by omega)]
      unfold cv_rc
      rw [h n (by omega)]
  intro k
  induction k with
  | zero => intro j; rfl
  | succ k ih =>
    intro j
    have e : cv_RT L cl k = cv_RT L c2 k := funext ih
    simp only [cv_RT]
    rw [e]
    unfold cv_rv
    rw [hrl _ _ _ _ _ (Nat.le_refl _)]
theorem cv_so_9 {L : cv_L} (hB : cv_LB L) (d r t : Nat) : cv_so L (-9) d r t = cv_so L (-1) d r t := by
  have h6 := hB.1
  unfold cv_so
  have : cv_RT L (fun q => decide (nI q = -9)) 8 = cv_RT L (fun q => decide (nI q = -1)) 8 := funext (cv_RT_cl (fun p hp => by
    rw [decide_eq_false (cv_m9 (by omega)), decide_eq_false (cv_m1 (by omega))]) 8)
  rw [this]
theorem cv_so_give (L : cv_L) (x : Int32) (a b d r t : Nat) : cv_so (cv_lu (cv_lu L 6 1 a) 6 2 b) x d r t = cv_so L x d r t := by
  unfold cv_so
  have : cv_RT (cv_lu (cv_lu L 6 1 a) 6 2 b) (fun q => decide (nI q = x)) 8 = cv_RT L (fun q => decide (nI q = x)) 8 := funext (fun j => by rw [cv_RT_give, cv_RT_give])
  rw [this, cv_lu_i (by decide), cv_lu_i (by decide)]
