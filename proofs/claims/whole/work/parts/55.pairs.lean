/-! ===== both sides, by one state ===== -/
def cv_I (σ μ : cv_St) : Prop := ∃ (tr : Int32) (ft : Nat) (sl : Nat → Option (Nat × Nat)) (sc : Nat → Nat → Int32) (L : cv_L) (rc : Nat) (rd : Nat → Nat) (rn : Nat → Option Nat), cv_RC tr ft sl sc L rc rd rn σ ∧ cv_RM tr ft sl sc L rc rd rn μ ∧ cv_LB L ∧ cv_DB rc rd rn
theorem cv_I0 : cv_I cv_s0 cv_t0 := by
  refine ⟨0, 0, fun _ => none, fun _ _ => 0, fun _ _ => 0, 0, fun _ => 0, fun _ => none, ⟨rfl, rfl, fun k hk => ⟨?_, fun h => by cases h⟩, ⟨rfl, fun d hd => rfl, fun v hv => rfl, fun p hp => absurd hp (Nat.not_lt_zero _)⟩, rfl, rfl, fun k hk => absurd hk (Nat.not_lt_zero _)⟩, ⟨rfl, rfl, fun k hk => ⟨?_, fun h => by cases h⟩, ⟨rfl, fun d hd => rfl, fun v hv => rfl, fun p hp => absurd hp (Nat.not_lt_zero _)⟩, rfl, rfl, fun k hk => absurd hk (Nat.not_lt_zero _)⟩, ⟨Nat.zero_le _, fun p hp => absurd hp (Nat.not_lt_zero _), fun d hd => Nat.zero_le _, fun v hv => (by decide : (0 : Nat) < 256)⟩, Nat.zero_le _, fun k hk => absurd hk (Nat.not_lt_zero _)⟩
  · match k, hk with
    | 0, _ => rfl
    | 1, _ => rfl
    | 2, _ => rfl
    | 3, _ => rfl
  · match k, hk with
    | 0, _ => exact (by decide : cv_t0 1 0 = -9)
    | 1, _ => exact (by decide : cv_t0 1 1 = -9)
    | 2, _ => exact (by decide : cv_t0 1 2 = -9)
    | 3, _ => exact (by decide : cv_t0 1 3 = -9)
/-- a call on both sides: one answer, and one state behind it -/
def cv_prI (y6 : MethodName) (c6 : ByteArray) (m6 d6 mc ms : Nat) (y7 : MethodName) (c7 : ByteArray) (m7 d7 : Nat) (As : List Value) (σ μ : cv_St) : Prop := ∃ (x : Int32) (P1 P2 : cv_St → Prop), cv_Ct y6 c6 m6 (some .int) d6 mc ms 26 cv_shC (.ref 0 :: As) σ (fun v u => v = some (.int x) ∧ P1 u) ∧ cv_Ct y7 c7 m7 (some .int) d7 0 0 17 cv_shM (.ref 0 :: As) μ (fun v u => v = some (.int x) ∧ P2 u) ∧ ∀ u w, P1 u → P2 w → cv_I u w
def cv_prL (y6 : MethodName) (c6 : ByteArray) (m6 d6 mc ms : Nat) (y7 : MethodName) (c7 : ByteArray) (m7 d7 : Nat) (As : List Value) (σ μ : cv_St) : Prop := ∃ (x : Int64) (P1 P2 : cv_St → Prop), cv_Ct y6 c6 m6 (some .long) d6 mc ms 26 cv_shC (.ref 0 :: As) σ (fun v u => v = some (.long x) ∧ P1 u) ∧ cv_Ct y7 c7 m7 (some .long) d7 0 0 17 cv_shM (.ref 0 :: As) μ (fun v u => v = some (.long x) ∧ P2 u) ∧ ∀ u w, P1 u → P2 w → cv_I u w
theorem cv_LB_nsnow {L : cv_L} (hB : cv_LB L) (x y : Int32) : cv_LB (cv_n_snow L x y) := by
  unfold cv_n_snow
  split
  · rename_i h
    obtain ⟨j, hj, rfl⟩ := cv_in_of h.2.1 (by decide)
    rw [show cv_nt (nI j) = j from nI_clamp (by omega)]
    exact cv_LB_snow hB (by omega)
  · exact hB
theorem cv_LB_ngive {L : cv_L} (hB : cv_LB L) (x y : Int32) : cv_LB (cv_n_give L x y) := by
  unfold cv_n_give
  split
  · rename_i h
    obtain ⟨j, hj, rfl⟩ := cv_in_of h.2.1 (by decide)
    rw [show cv_nt (nI j) = j from nI_clamp (by omega)]
    exact cv_LB_give hB hj
  · exact hB
theorem cv_LB_nland {sl : Nat → Option (Nat × Nat)} {sc : Nat → Nat → Int32} {L : cv_L} (hB : cv_LB L) (x y z w : Int32) : cv_LB (cv_n_land sl sc L x y z w) := by
  unfold cv_n_land
  split
  · rename_i h
    exact (cv_tl_B (cv_isN1 h.2.2)).1
  · exact hB
theorem cv_DB_nland {sl : Nat → Option (Nat × Nat)} {sc : Nat → Nat → Int32} {rc : Nat} {rd : Nat → Nat} {rn : Nat → Option Nat} (h : cv_DB rc rd rn) (x y z w : Int32) : cv_DB (cv_r_land sl sc rc x y z w) rd rn := by
  unfold cv_r_land
  split
  · exact ⟨Nat.zero_le _, fun k hk => absurd hk (Nat.not_lt_zero _)⟩
  · exact h
theorem cv_DB_back {rc : Nat} {rd : Nat → Nat} {rn : Nat → Option Nat} (h : cv_DB rc rd rn) (x : Int32) : cv_DB (if cv_in x (rc + 1) = true then rc - cv_nt x else rc) rd rn := by
  have h1 := h.1
  split
  · exact ⟨by omega, fun k hk => h.2 k (by omega)⟩
  · exact h
theorem cv_DB_reading {L : cv_L} {rc : Nat} {rd : Nat → Nat} {rn : Nat → Option Nat} (h : cv_DB rc rd rn) {x y : Int32} (hk : cv_ok_reading L rc x y) : cv_DB (rc + 1) (fun k => if k = rc then cv_nt x else rd k) (fun k => if k = rc then cv_on y else rn k) := by
  obtain ⟨h1, h2, h3, h4⟩ := hk
  obtain ⟨j, hj, rfl⟩ := cv_in_of h1 (by decide)
  refine ⟨by omega, fun k hk => ?_⟩
  dsimp only
  by_cases e : k = rc
  · rw [if_pos e, if_pos e, show cv_nt (nI j) = j from nI_clamp (by omega)]
    refine ⟨hj, fun z hz => ?_⟩
    unfold cv_on at hz
    split at hz
    · cases hz
    · rename_i hy
      rcases h2 with h2 | h2
      · exact absurd h2 hy
      · obtain ⟨i, hi, rfl⟩ := cv_in_of h2 (by decide)
        rw [show cv_nt (nI i) = i from nI_clamp (by omega)] at hz
        cases hz
        exact hi
  · rw [if_neg e, if_neg e]
    exact h.2 k (by omega)
theorem cv_p_land (x0 x1 x2 x3 : Int32) {σ μ : cv_St} (h : cv_I σ μ) : cv_prI yX6_land cX6_land 8 6 1 3 yX7_land cX7_land 7 4 [.int x0, .int x1, .int x2, .int x3] σ μ := by
  obtain ⟨tr, ft, sl, sc, L, rc, rd, rn, h1, h2, hB, hDB⟩ := h
  exact ⟨_, _, _, pX6_land tr ft sl sc L rc rd rn x0 x1 x2 x3 σ h1 hB hDB, pX7_land tr ft sl sc L rc rd rn x0 x1 x2 x3 μ h2 hB hDB, fun u w h1 h2 => ⟨_, _, _, _, _, _, _, _, h1, h2, cv_LB_nland hB x0 x1 x2 x3, cv_DB_nland hDB x0 x1 x2 x3⟩⟩
theorem cv_p_ofPass (x0 x1 : Int32) {σ μ : cv_St} (h : cv_I σ μ) : cv_prI yX6_ofPass cX6_ofPass 4 2 0 0 yX7_ofPass cX7_ofPass 3 2 [.int x0, .int x1] σ μ := by
  obtain ⟨tr, ft, sl, sc, L, rc, rd, rn, h1, h2, hB, hDB⟩ := h
  exact ⟨_, _, _, pX6_ofPass tr ft sl sc L rc rd rn x0 x1 σ h1 hB hDB, pX7_ofPass tr ft sl sc L rc rd rn x0 x1 μ h2 hB hDB, fun u w h1 h2 => ⟨_, _, _, _, _, _, _, _, h1, h2, hB, hDB⟩⟩
theorem cv_p_snow (x0 x1 : Int32) {σ μ : cv_St} (h : cv_I σ μ) : cv_prI yX6_snow cX6_snow 4 2 0 0 yX7_snow cX7_snow 4 2 [.int x0, .int x1] σ μ := by
  obtain ⟨tr, ft, sl, sc, L, rc, rd, rn, h1, h2, hB, hDB⟩ := h
  exact ⟨_, _, _, pX6_snow tr ft sl sc L rc rd rn x0 x1 σ h1 hB hDB, pX7_snow tr ft sl sc L rc rd rn x0 x1 μ h2 hB hDB, fun u w h1 h2 => ⟨_, _, _, _, _, _, _, _, h1, h2, cv_LB_nsnow hB x0 x1, hDB⟩⟩
theorem cv_p_give (x0 x1 : Int32) {σ μ : cv_St} (h : cv_I σ μ) : cv_prI yX6_give cX6_give 4 2 0 0 yX7_give cX7_give 4 2 [.int x0, .int x1] σ μ := by
  obtain ⟨tr, ft, sl, sc, L, rc, rd, rn, h1, h2, hB, hDB⟩ := h
  exact ⟨_, _, _, pX6_give tr ft sl sc L rc rd rn x0 x1 σ h1 hB hDB, pX7_give tr ft sl sc L rc rd rn x0 x1 μ h2 hB hDB, fun u w h1 h2 => ⟨_, _, _, _, _, _, _, _, h1, h2, cv_LB_ngive hB x0 x1, hDB⟩⟩
theorem cv_p_open (x0 : Int32) {σ μ : cv_St} (h : cv_I σ μ) : cv_prI yX6_open cX6_open 4 2 0 0 yX7_open cX7_open 4 2 [.int x0] σ μ := by
  obtain ⟨tr, ft, sl, sc, L, rc, rd, rn, h1, h2, hB, hDB⟩ := h
  exact ⟨_, _, _, pX6_open tr ft sl sc L rc rd rn x0 σ h1 hB hDB, pX7_open tr ft sl sc L rc rd rn x0 μ h2 hB hDB, fun u w h1 h2 => ⟨_, _, _, _, _, _, _, _, h1, h2, hB, hDB⟩⟩
theorem cv_p_soonest (x0 : Int32) {σ μ : cv_St} (h : cv_I σ μ) : cv_prI yX6_soonest cX6_soonest 2 4 0 0 yX7_soonest cX7_soonest 2 5 [.int x0] σ μ := by
  obtain ⟨tr, ft, sl, sc, L, rc, rd, rn, h1, h2, hB, hDB⟩ := h
  exact ⟨_, _, _, pX6_soonest tr ft sl sc L rc rd rn x0 σ h1 hB hDB, pX7_soonest tr ft sl sc L rc rd rn x0 μ h2 hB hDB, fun u w h1 h2 => ⟨_, _, _, _, _, _, _, _, h1, h2, hB, hDB⟩⟩
theorem cv_p_holes (x0 : Int32) {σ μ : cv_St} (h : cv_I σ μ) : cv_prI yX6_holes cX6_holes 2 4 0 0 yX7_holes cX7_holes 2 4 [.int x0] σ μ := by
  obtain ⟨tr, ft, sl, sc, L, rc, rd, rn, h1, h2, hB, hDB⟩ := h
  exact ⟨_, _, _, pX6_holes tr ft sl sc L rc rd rn x0 σ h1 hB hDB, pX7_holes tr ft sl sc L rc rd rn x0 μ h2 hB hDB, fun u w h1 h2 => ⟨_, _, _, _, _, _, _, _, h1, h2, hB, hDB⟩⟩
theorem cv_p_way (x0 x1 x2 x3 x4 x5 : Int32) {σ μ : cv_St} (h : cv_I σ μ) : cv_prI yX6_way cX6_way 9 5 0 0 yX7_way cX7_way 10 3 [.int x0, .int x1, .int x2, .int x3, .int x4, .int x5] σ μ := by
  obtain ⟨tr, ft, sl, sc, L, rc, rd, rn, h1, h2, hB, hDB⟩ := h
  exact ⟨_, _, _, pX6_way tr ft sl sc L rc rd rn x0 x1 x2 x3 x4 x5 σ h1 hB hDB, pX7_way tr ft sl sc L rc rd rn x0 x1 x2 x3 x4 x5 μ h2 hB hDB, fun u w h1 h2 => ⟨_, _, _, _, _, _, _, _, h1, h2, hB, hDB⟩⟩
theorem cv_p_last (x0 : Int32) {σ μ : cv_St} (h : cv_I σ μ) : cv_prI yX6_last cX6_last 3 4 0 0 yX7_last cX7_last 4 6 [.int x0] σ μ := by
  obtain ⟨tr, ft, sl, sc, L, rc, rd, rn, h1, h2, hB, hDB⟩ := h
  exact ⟨_, _, _, pX6_last tr ft sl sc L rc rd rn x0 σ h1 hB hDB, pX7_last tr ft sl sc L rc rd rn x0 μ h2 hB hDB, fun u w h1 h2 => ⟨_, _, _, _, _, _, _, _, h1, h2, hB, hDB⟩⟩
theorem cv_p_safe (x0 : Int32) {σ μ : cv_St} (h : cv_I σ μ) : cv_prI yX6_safe cX6_safe 3 5 0 0 yX7_safe cX7_safe 4 7 [.int x0] σ μ := by
  obtain ⟨tr, ft, sl, sc, L, rc, rd, rn, h1, h2, hB, hDB⟩ := h
  exact ⟨_, _, _, pX6_safe tr ft sl sc L rc rd rn x0 σ h1 hB hDB, pX7_safe tr ft sl sc L rc rd rn x0 μ h2 hB hDB, fun u w h1 h2 => ⟨_, _, _, _, _, _, _, _, h1, h2, hB, hDB⟩⟩
theorem cv_p_hangs (x0 x1 : Int32) {σ μ : cv_St} (h : cv_I σ μ) : cv_prI yX6_hangs cX6_hangs 5 5 0 0 yX7_hangs cX7_hangs 5 6 [.int x0, .int x1] σ μ := by
  obtain ⟨tr, ft, sl, sc, L, rc, rd, rn, h1, h2, hB, hDB⟩ := h
  exact ⟨_, _, _, pX6_hangs tr ft sl sc L rc rd rn x0 x1 σ h1 hB hDB, pX7_hangs tr ft sl sc L rc rd rn x0 x1 μ h2 hB hDB, fun u w h1 h2 => ⟨_, _, _, _, _, _, _, _, h1, h2, hB, hDB⟩⟩
theorem cv_p_peace (x0 x1 : Int32) {σ μ : cv_St} (h : cv_I σ μ) : cv_prI yX6_peace cX6_peace 3 5 0 0 yX7_peace cX7_peace 8 6 [.int x0, .int x1] σ μ := by
  obtain ⟨tr, ft, sl, sc, L, rc, rd, rn, h1, h2, hB, hDB⟩ := h
  exact ⟨_, _, _, pX6_peace tr ft sl sc L rc rd rn x0 x1 σ h1 hB hDB, pX7_peace tr ft sl sc L rc rd rn x0 x1 μ h2 hB hDB, fun u w h1 h2 => ⟨_, _, _, _, _, _, _, _, h1, h2, hB, hDB⟩⟩
theorem cv_p_reading (x0 x1 : Int32) {σ μ : cv_St} (h : cv_I σ μ) : cv_prI yX6_reading cX6_reading 4 2 0 0 yX7_reading cX7_reading 3 2 [.int x0, .int x1] σ μ := by
  obtain ⟨tr, ft, sl, sc, L, rc, rd, rn, h1, h2, hB, hDB⟩ := h
  exact ⟨_, _, _, pX6_reading tr ft sl sc L rc rd rn x0 x1 σ h1 hB hDB, pX7_reading tr ft sl sc L rc rd rn x0 x1 μ h2 hB hDB, fun u w h1 h2 => by
    by_cases hc : cv_ok_reading L rc x0 x1
    · rw [if_pos hc] at h1 h2
      exact ⟨_, _, _, _, _, _, _, _, h1, h2, hB, cv_DB_reading hDB hc⟩
    · rw [if_neg hc] at h1 h2
      exact ⟨_, _, _, _, _, _, _, _, h1, h2, hB, hDB⟩⟩
theorem cv_p_back (x0 : Int32) {σ μ : cv_St} (h : cv_I σ μ) : cv_prI yX6_back cX6_back 2 0 0 0 yX7_back cX7_back 2 1 [.int x0] σ μ := by
  obtain ⟨tr, ft, sl, sc, L, rc, rd, rn, h1, h2, hB, hDB⟩ := h
  exact ⟨_, _, _, pX6_back tr ft sl sc L rc rd rn x0 σ h1 hB hDB, pX7_back tr ft sl sc L rc rd rn x0 μ h2 hB hDB, fun u w h1 h2 => ⟨_, _, _, _, _, _, _, _, h1, h2, hB, cv_DB_back hDB x0⟩⟩
theorem cv_p_snows (x0 : Int32) {σ μ : cv_St} (h : cv_I σ μ) : cv_prI yX6_snows cX6_snows 5 6 0 0 yX7_snows cX7_snows 5 6 [.int x0] σ μ := by
  obtain ⟨tr, ft, sl, sc, L, rc, rd, rn, h1, h2, hB, hDB⟩ := h
  exact ⟨_, _, _, pX6_snows tr ft sl sc L rc rd rn x0 σ h1 hB hDB, pX7_snows tr ft sl sc L rc rd rn x0 μ h2 hB hDB, fun u w h1 h2 => ⟨_, _, _, _, _, _, _, _, h1, h2, hB, hDB⟩⟩
theorem cv_p_heights (x0 : Int32) {σ μ : cv_St} (h : cv_I σ μ) : cv_prI yX6_heights cX6_heights 6 6 0 0 yX7_heights cX7_heights 5 6 [.int x0] σ μ := by
  obtain ⟨tr, ft, sl, sc, L, rc, rd, rn, h1, h2, hB, hDB⟩ := h
  exact ⟨_, _, _, pX6_heights tr ft sl sc L rc rd rn x0 σ h1 hB hDB, pX7_heights tr ft sl sc L rc rd rn x0 μ h2 hB hDB, fun u w h1 h2 => ⟨_, _, _, _, _, _, _, _, h1, h2, hB, hDB⟩⟩
theorem cv_p_kinds (x0 : Int32) {σ μ : cv_St} (h : cv_I σ μ) : cv_prI yX6_kinds cX6_kinds 6 6 0 0 yX7_kinds cX7_kinds 5 6 [.int x0] σ μ := by
  obtain ⟨tr, ft, sl, sc, L, rc, rd, rn, h1, h2, hB, hDB⟩ := h
  exact ⟨_, _, _, pX6_kinds tr ft sl sc L rc rd rn x0 σ h1 hB hDB, pX7_kinds tr ft sl sc L rc rd rn x0 μ h2 hB hDB, fun u w h1 h2 => ⟨_, _, _, _, _, _, _, _, h1, h2, hB, hDB⟩⟩
theorem cv_p_gave (x0 x1 : Int32) {σ μ : cv_St} (h : cv_I σ μ) : cv_prI yX6_gave cX6_gave 7 5 0 0 yX7_gave cX7_gave 7 6 [.int x0, .int x1] σ μ := by
  obtain ⟨tr, ft, sl, sc, L, rc, rd, rn, h1, h2, hB, hDB⟩ := h
  exact ⟨_, _, _, pX6_gave tr ft sl sc L rc rd rn x0 x1 σ h1 hB hDB, pX7_gave tr ft sl sc L rc rd rn x0 x1 μ h2 hB hDB, fun u w h1 h2 => ⟨_, _, _, _, _, _, _, _, h1, h2, hB, hDB⟩⟩
theorem cv_p_odds (x0 x1 x2 x3 : Int32) {σ μ : cv_St} (h : cv_I σ μ) : cv_prL yX6_odds cX6_odds 8 5 0 0 yX7_odds cX7_odds 9 6 [.int x0, .int x1, .int x2, .int x3] σ μ := by
  obtain ⟨tr, ft, sl, sc, L, rc, rd, rn, h1, h2, hB, hDB⟩ := h
  exact ⟨_, _, _, pX6_odds tr ft sl sc L rc rd rn x0 x1 x2 x3 σ h1 hB hDB, pX7_odds tr ft sl sc L rc rd rn x0 x1 x2 x3 μ h2 hB hDB, fun u w h1 h2 => ⟨_, _, _, _, _, _, _, _, h1, h2, hB, hDB⟩⟩
theorem cv_p_sheet (x0 x1 x2 : Int32) {σ μ : cv_St} (h : cv_I σ μ) : cv_prI yX6_sheet cX6_sheet 4 2 0 0 yX7_sheet cX7_sheet 5 2 [.int x0, .int x1, .int x2] σ μ := by
  obtain ⟨tr, ft, sl, sc, L, rc, rd, rn, h1, h2, hB, hDB⟩ := h
  exact ⟨_, _, _, pX6_sheet tr ft sl sc L rc rd rn x0 x1 x2 σ h1 hB hDB, pX7_sheet tr ft sl sc L rc rd rn x0 x1 x2 μ h2 hB hDB, fun u w h1 h2 => by
    by_cases hc : cv_ok_sheet x0 x1 x2
    · rw [if_pos hc] at h1 h2
      exact ⟨_, _, _, _, _, _, _, _, h1, h2, hB, hDB⟩
    · rw [if_neg hc] at h1 h2
      exact ⟨_, _, _, _, _, _, _, _, h1, h2, hB, hDB⟩⟩
theorem cv_p_lose (x0 : Int32) {σ μ : cv_St} (h : cv_I σ μ) : cv_prI yX6_lose cX6_lose 3 2 0 0 yX7_lose cX7_lose 3 2 [.int x0] σ μ := by
  obtain ⟨tr, ft, sl, sc, L, rc, rd, rn, h1, h2, hB, hDB⟩ := h
  exact ⟨_, _, _, pX6_lose tr ft sl sc L rc rd rn x0 σ h1 hB hDB, pX7_lose tr ft sl sc L rc rd rn x0 μ h2 hB hDB, fun u w h1 h2 => by
    by_cases hc : cv_in x0 4 = true
    · rw [if_pos hc] at h1 h2
      exact ⟨_, _, _, _, _, _, _, _, h1, h2, hB, hDB⟩
    · rw [if_neg hc] at h1 h2
      exact ⟨_, _, _, _, _, _, _, _, h1, h2, hB, hDB⟩⟩
theorem cv_p_put (x0 x1 x2 : Int32) {σ μ : cv_St} (h : cv_I σ μ) : cv_prI yX6_put cX6_put 6 2 0 0 yX7_put cX7_put 4 2 [.int x0, .int x1, .int x2] σ μ := by
  obtain ⟨tr, ft, sl, sc, L, rc, rd, rn, h1, h2, hB, hDB⟩ := h
  exact ⟨_, _, _, pX6_put tr ft sl sc L rc rd rn x0 x1 x2 σ h1 hB hDB, pX7_put tr ft sl sc L rc rd rn x0 x1 x2 μ h2 hB hDB, fun u w h1 h2 => ⟨_, _, _, _, _, _, _, _, h1, h2, hB, hDB⟩⟩
theorem cv_p_cell (x0 x1 x2 : Int32) {σ μ : cv_St} (h : cv_I σ μ) : cv_prL yX6_cell cX6_cell 5 2 0 0 yX7_cell cX7_cell 4 2 [.int x0, .int x1, .int x2] σ μ := by
  obtain ⟨tr, ft, sl, sc, L, rc, rd, rn, h1, h2, hB, hDB⟩ := h
  exact ⟨_, _, _, pX6_cell tr ft sl sc L rc rd rn x0 x1 x2 σ h1 hB hDB, pX7_cell tr ft sl sc L rc rd rn x0 x1 x2 μ h2 hB hDB, fun u w h1 h2 => ⟨_, _, _, _, _, _, _, _, h1, h2, hB, hDB⟩⟩
theorem cv_p_copy (x0 x1 x2 x3 x4 : Int32) {σ μ : cv_St} (h : cv_I σ μ) : cv_prI yX6_copy cX6_copy 8 2 0 0 yX7_copy cX7_copy 10 2 [.int x0, .int x1, .int x2, .int x3, .int x4] σ μ := by
  obtain ⟨tr, ft, sl, sc, L, rc, rd, rn, h1, h2, hB, hDB⟩ := h
  exact ⟨_, _, _, pX6_copy tr ft sl sc L rc rd rn x0 x1 x2 x3 x4 σ h1 hB hDB, pX7_copy tr ft sl sc L rc rd rn x0 x1 x2 x3 x4 μ h2 hB hDB, fun u w h1 h2 => ⟨_, _, _, _, _, _, _, _, h1, h2, hB, hDB⟩⟩
theorem cv_p_tell (x0 : Int32) {σ μ : cv_St} (h : cv_I σ μ) : cv_prI yX6_tell cX6_tell 3 4 0 0 yX7_tell cX7_tell 3 2 [.int x0] σ μ := by
  obtain ⟨tr, ft, sl, sc, L, rc, rd, rn, h1, h2, hB, hDB⟩ := h
  exact ⟨_, _, _, pX6_tell tr ft sl sc L rc rd rn x0 σ h1 hB hDB, pX7_tell tr ft sl sc L rc rd rn x0 μ h2 hB hDB, fun u w h1 h2 => ⟨_, _, _, _, _, _, _, _, h1, h2, hB, hDB⟩⟩
theorem cv_p_mark (x0 : Int32) {σ μ : cv_St} (h : cv_I σ μ) : cv_prI yX6_mark cX6_mark 2 2 0 0 yX7_mark cX7_mark 2 2 [.int x0] σ μ := by
  obtain ⟨tr, ft, sl, sc, L, rc, rd, rn, h1, h2, hB, hDB⟩ := h
  exact ⟨_, _, _, pX6_mark tr ft sl sc L rc rd rn x0 σ h1 hB hDB, pX7_mark tr ft sl sc L rc rd rn x0 μ h2 hB hDB, fun u w h1 h2 => ⟨_, _, _, _, _, _, _, _, h1, h2, hB, hDB⟩⟩
theorem cv_p_as (x0 x1 : Int32) {σ μ : cv_St} (h : cv_I σ μ) : cv_prI yX6_as cX6_as 3 2 0 0 yX7_as cX7_as 3 2 [.int x0, .int x1] σ μ := by
  obtain ⟨tr, ft, sl, sc, L, rc, rd, rn, h1, h2, hB, hDB⟩ := h
  exact ⟨_, _, _, pX6_as tr ft sl sc L rc rd rn x0 x1 σ h1 hB hDB, pX7_as tr ft sl sc L rc rd rn x0 x1 μ h2 hB hDB, fun u w h1 h2 => ⟨_, _, _, _, _, _, _, _, h1, h2, hB, hDB⟩⟩
theorem cv_p_trace {σ μ : cv_St} (h : cv_I σ μ) : cv_prI yX6_trace cX6_trace 1 0 0 0 yX7_trace cX7_trace 1 0 [] σ μ := by
  obtain ⟨tr, ft, sl, sc, L, rc, rd, rn, h1, h2, hB, hDB⟩ := h
  exact ⟨_, _, _, pX6_trace tr ft sl sc L rc rd rn  σ h1 hB hDB, pX7_trace tr ft sl sc L rc rd rn  μ h2 hB hDB, fun u w h1 h2 => ⟨_, _, _, _, _, _, _, _, h1, h2, hB, hDB⟩⟩
theorem cv_p_fault {σ μ : cv_St} (h : cv_I σ μ) : cv_prI yX6_fault cX6_fault 1 0 0 0 yX7_fault cX7_fault 1 0 [] σ μ := by
  obtain ⟨tr, ft, sl, sc, L, rc, rd, rn, h1, h2, hB, hDB⟩ := h
  exact ⟨_, _, _, pX6_fault tr ft sl sc L rc rd rn  σ h1 hB hDB, pX7_fault tr ft sl sc L rc rd rn  μ h2 hB hDB, fun u w h1 h2 => ⟨_, _, _, _, _, _, _, _, h1, h2, hB, hDB⟩⟩
theorem cv_p_many (x0 : Int32) {σ μ : cv_St} (h : cv_I σ μ) : cv_prI yX6_many cX6_many 2 1 0 0 yX7_many cX7_many 2 2 [.int x0] σ μ := by
  obtain ⟨tr, ft, sl, sc, L, rc, rd, rn, h1, h2, hB, hDB⟩ := h
  exact ⟨_, _, _, pX6_many tr ft sl sc L rc rd rn x0 σ h1 hB hDB, pX7_many tr ft sl sc L rc rd rn x0 μ h2 hB hDB, fun u w h1 h2 => ⟨_, _, _, _, _, _, _, _, h1, h2, hB, hDB⟩⟩
