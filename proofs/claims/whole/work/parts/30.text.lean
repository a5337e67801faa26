/-- the text's object (cell 26) tells n codes g of the row tx from fr on -/
def cv_TX (tx fr n : Nat) (g : Nat → Int32) (σ : cv_St) : Prop := σ 26 1 = nI fr ∧ σ 26 2 = nI n ∧ fr + n ≤ 60 ∧ ∀ p, p < n → σ tx (fr + p) = g p
theorem cv_TX_k {tx fr n : Nat} {g : Nat → Int32} {σ u : cv_St} (h : cv_TX tx fr n g σ) (h1 : u 26 = σ 26) (h2 : u tx = σ tx) : cv_TX tx fr n g u := ⟨by rw [h1]; exact h.1, by rw [h1]; exact h.2.1, h.2.2.1, fun p hp => by rw [h2]; exact h.2.2.2 p hp⟩
theorem cv_c112 (y : Int32) : y = nI 112 ∨ y = nI 113 ∨ y = nI 114 ∨ y = nI 115 ∨ y = nI 116 ∨ (y.toInt < 112 ∨ 116 < y.toInt) := by
  by_cases h : y.toInt < 112 ∨ 116 < y.toInt
  · exact Or.inr (Or.inr (Or.inr (Or.inr (Or.inr h))))
  · have e : ∀ n : Nat, n < 200 → y.toInt = (n : Int) → y = nI n := fun n hn hy => Int32.toInt_inj.mp (by rw [hy, nI_toInt (by omega)])
    have h2 : y.toInt = 112 ∨ y.toInt = 113 ∨ y.toInt = 114 ∨ y.toInt = 115 ∨ y.toInt = 116 := by omega
    rcases h2 with h2 | h2 | h2 | h2 | h2
    · exact Or.inl (e 112 (by decide) h2)
    · exact Or.inr (Or.inl (e 113 (by decide) h2))
    · exact Or.inr (Or.inr (Or.inl (e 114 (by decide) h2)))
    · exact Or.inr (Or.inr (Or.inr (Or.inl (e 115 (by decide) h2))))
    · exact Or.inr (Or.inr (Or.inr (Or.inr (Or.inl (e 116 (by decide) h2)))))
set_option maxHeartbeats 4000000 in
set_option maxRecDepth 100000 in
theorem kX4_codeAt (tx fr n : Nat) (g : Nat → Int32) (p : Nat) (σ : cv_St) (htx : 6 ≤ tx ∧ tx < 10) (hX : cv_TX tx fr n g σ) (hp : p < n) : cv_Ct yX4_codeAt cX4_codeAt 2 (some .int) 0 0 0 27 (cv_shT tx) [.ref 26, .int (nI p)] σ (cv_pu (.int (g p)) σ) := by
  refine cv_enter (own := RX4) (by decide) rfl (Nat.le_of_ble_eq_true rfl) ?_
  intro X a C Rt hRm
  have D := @cv_dec _ _ dkX4_codeAt
  have hn60 := hX.2.2.1
  show cv_At X _ _ σ 0 [(0, .ref 26), (1, .int (nI p))] []
  refine cv_aload_n C (pc' := 1) rfl (D 0 (0, .aload_n 0, 1) rfl) rfl (j := 0) rfl ?_
  refine cv_get C (pc' := 4) rfl (k0 := 26) (i := 0) (ci := 4) (by decide) rfl rfl (by decide) (o := some tx) rfl iw_X4 wfX4_9 (D 1 (1, .getfield 9, 3) rfl) rfl ?_
  refine cv_aload_n C (pc' := 5) rfl (D 2 (4, .aload_n 0, 1) rfl) rfl (j := 0) rfl ?_
  refine cv_get C (pc' := 8) rfl (k0 := 26) (i := 1) (ci := 4) (by decide) rfl rfl (by decide) (o := none) rfl iw_X4 wfX4_15 (D 3 (5, .getfield 15, 3) rfl) (v := .int (nI fr)) (congrArg Value.int hX.1) ?_
  refine cv_iload_n C (pc' := 9) rfl (D 4 (8, .iload_n 1, 1) rfl) rfl (j := 1) rfl ?_
  refine cv_iaddN C (pc' := 10) rfl (D 5 (9, .iadd, 1) rfl) ?_
  refine cv_iald C (pc' := 11) rfl (k0 := tx) (j := fr + p) (cv_ltT_tx htx) (cv_shT_tx htx) rfl (by omega) (by decide) (D 6 (10, .iaload, 1) rfl) (v := g p) (hX.2.2.2 _ (by omega)) ?_
  exact cv_iret C Rt rfl (D 7 (11, .ireturn, 1) rfl) ⟨rfl, rfl⟩

set_option maxHeartbeats 4000000 in
set_option maxRecDepth 100000 in
theorem kX4_digitAt (tx fr n : Nat) (g : Nat → Int32) (p : Nat) (σ : cv_St) (htx : 6 ≤ tx ∧ tx < 10) (hX : cv_TX tx fr n g σ) (hp : p < n) : cv_Ct yX4_digitAt cX4_digitAt 2 (some .int) 1 0 0 27 (cv_shT tx) [.ref 26, .int (nI p)] σ (cv_pu (.int (g p - nI 48)) σ) := by
  refine cv_enter (own := RX4) (by decide) rfl (Nat.le_of_ble_eq_true rfl) ?_
  intro X a C Rt hRm
  have D := @cv_dec _ _ dkX4_digitAt
  have hn60 := hX.2.2.1
  show cv_At X _ _ σ 0 [(0, .ref 26), (1, .int (nI p))] []
  refine cv_aload_n C (pc' := 1) rfl (D 0 (0, .aload_n 0, 1) rfl) rfl (j := 0) rfl ?_
  refine cv_iload_n C (pc' := 2) rfl (D 1 (1, .iload_n 1, 1) rfl) rfl (j := 1) rfl ?_
  refine cv_callV C (pc' := 5) rfl (k0 := 26) (ci := 4) (As := [.int (nI p)]) (rest := []) (idx := 22) (np := 1) (kX4_codeAt tx fr n g p σ htx hX (by omega)) (by decide) rfl rfl rfl (by decide +kernel) rfl wmX4_22 wi_yX4_codeAt ws_yX4_codeAt wn_X4 wc_yX4_codeAt (by decide) (by decide) (D 2 (2, .invokevirtual 22, 3) rfl) (Nat.le_of_ble_eq_true rfl) rfl (fun w9 u9 h9 => ?_)
  rw [h9.1, h9.2]
  show cv_At X _ _ σ 5 _ [.int (g p)]
  refine cv_bipush C (pc' := 7) rfl (D 3 (5, .bipush 48, 2) rfl) (v := nI 48) (by decide) ?_
  refine cv_isub C (pc' := 8) rfl (D 4 (7, .isub, 1) rfl) ?_
  exact cv_iret C Rt rfl (D 5 (8, .ireturn, 1) rfl) ⟨rfl, rfl⟩

set_option maxHeartbeats 4000000 in
set_option maxRecDepth 100000 in
theorem kX4_numberAt (tx fr n : Nat) (g : Nat → Int32) (p : Nat) (σ : cv_St) (htx : 6 ≤ tx ∧ tx < 10) (hX : cv_TX tx fr n g σ) (hp : p + 2 < n) : cv_Ct yX4_numberAt cX4_numberAt 2 (some .int) 2 0 0 27 (cv_shT tx) [.ref 26, .int (nI p)] σ (cv_pu (.int ((g p - nI 48) * nI 100 + (g (p + 1) - nI 48) * nI 10 + (g (p + 2) - nI 48))) σ) := by
  refine cv_enter (own := RX4) (by decide) rfl (Nat.le_of_ble_eq_true rfl) ?_
  intro X a C Rt hRm
  have D := @cv_dec _ _ dkX4_numberAt
  have hn60 := hX.2.2.1
  show cv_At X _ _ σ 0 [(0, .ref 26), (1, .int (nI p))] []
  refine cv_aload_n C (pc' := 1) rfl (D 0 (0, .aload_n 0, 1) rfl) rfl (j := 0) rfl ?_
  refine cv_iload_n C (pc' := 2) rfl (D 1 (1, .iload_n 1, 1) rfl) rfl (j := 1) rfl ?_
  refine cv_callV C (pc' := 5) rfl (k0 := 26) (ci := 4) (As := [.int (nI p)]) (rest := []) (idx := 26) (np := 1) (kX4_digitAt tx fr n g p σ htx hX (by omega)) (by decide) rfl rfl rfl (by decide +kernel) rfl wmX4_26 wi_yX4_digitAt ws_yX4_digitAt wn_X4 wc_yX4_digitAt (by decide) (by decide) (D 2 (2, .invokevirtual 26, 3) rfl) (Nat.le_of_ble_eq_true rfl) rfl (fun w9 u9 h9 => ?_)
  rw [h9.1, h9.2]
  show cv_At X _ _ σ 5 _ [.int (g p - nI 48)]
  refine cv_bipush C (pc' := 7) rfl (D 3 (5, .bipush 100, 2) rfl) (v := nI 100) (by decide) ?_
  refine cv_imul C (pc' := 8) rfl (D 4 (7, .imul, 1) rfl) ?_
  refine cv_aload_n C (pc' := 9) rfl (D 5 (8, .aload_n 0, 1) rfl) rfl (j := 0) rfl ?_
  refine cv_iload_n C (pc' := 10) rfl (D 6 (9, .iload_n 1, 1) rfl) rfl (j := 1) rfl ?_
  refine cv_iconst C (pc' := 11) rfl (D 7 (10, .iconst 1, 1) rfl) (v := nI 1) (by decide) ?_
  refine cv_iaddN C (pc' := 12) rfl (D 8 (11, .iadd, 1) rfl) ?_
  refine cv_callV C (pc' := 15) rfl (k0 := 26) (ci := 4) (As := [.int (nI (p + 1))]) (rest := [.int ((g p - nI 48) * (nI 100))]) (idx := 26) (np := 1) (kX4_digitAt tx fr n g (p + 1) σ htx hX (by omega)) (by decide) rfl rfl rfl (by decide +kernel) rfl wmX4_26 wi_yX4_digitAt ws_yX4_digitAt wn_X4 wc_yX4_digitAt (by decide) (by decide) (D 9 (12, .invokevirtual 26, 3) rfl) (Nat.le_of_ble_eq_true rfl) rfl (fun w9 u9 h9 => ?_)
  rw [h9.1, h9.2]
  show cv_At X _ _ σ 15 _ [.int (g (p + 1) - nI 48), .int ((g p - nI 48) * (nI 100))]
  refine cv_bipush C (pc' := 17) rfl (D 10 (15, .bipush 10, 2) rfl) (v := nI 10) (by decide) ?_
  refine cv_imul C (pc' := 18) rfl (D 11 (17, .imul, 1) rfl) ?_
  refine cv_iadd C (pc' := 19) rfl (D 12 (18, .iadd, 1) rfl) ?_
  refine cv_aload_n C (pc' := 20) rfl (D 13 (19, .aload_n 0, 1) rfl) rfl (j := 0) rfl ?_
  refine cv_iload_n C (pc' := 21) rfl (D 14 (20, .iload_n 1, 1) rfl) rfl (j := 1) rfl ?_
  refine cv_iconst C (pc' := 22) rfl (D 15 (21, .iconst 2, 1) rfl) (v := nI 2) (by decide) ?_
  refine cv_iaddN C (pc' := 23) rfl (D 16 (22, .iadd, 1) rfl) ?_
  refine cv_callV C (pc' := 26) rfl (k0 := 26) (ci := 4) (As := [.int (nI (p + 2))]) (rest := [.int (((g p - nI 48) * (nI 100)) + ((g (p + 1) - nI 48) * (nI 10)))]) (idx := 26) (np := 1) (kX4_digitAt tx fr n g (p + 2) σ htx hX (by omega)) (by decide) rfl rfl rfl (by decide +kernel) rfl wmX4_26 wi_yX4_digitAt ws_yX4_digitAt wn_X4 wc_yX4_digitAt (by decide) (by decide) (D 17 (23, .invokevirtual 26, 3) rfl) (Nat.le_of_ble_eq_true rfl) rfl (fun w9 u9 h9 => ?_)
  rw [h9.1, h9.2]
  show cv_At X _ _ σ 26 _ [.int (g (p + 2) - nI 48), .int (((g p - nI 48) * (nI 100)) + ((g (p + 1) - nI 48) * (nI 10)))]
  refine cv_iadd C (pc' := 27) rfl (D 18 (26, .iadd, 1) rfl) ?_
  exact cv_iret C Rt rfl (D 19 (27, .ireturn, 1) rfl) ⟨rfl, rfl⟩

set_option maxHeartbeats 4000000 in
set_option maxRecDepth 100000 in
theorem kX4_kindAt (tx fr n : Nat) (g : Nat → Int32) (p : Nat) (σ : cv_St) (htx : 6 ≤ tx ∧ tx < 10) (hX : cv_TX tx fr n g σ) (hp : p < n) : cv_Ct yX4_kindAt cX4_kindAt 2 (some .int) 1 0 0 27 (cv_shT tx) [.ref 26, .int (nI p)] σ (cv_pu (.int (cv_o (cv_kd (g p)))) σ) := by
  refine cv_enter (own := RX4) (by decide) rfl (Nat.le_of_ble_eq_true rfl) ?_
  intro X a C Rt hRm
  have D := @cv_dec _ _ dkX4_kindAt
  have hn60 := hX.2.2.1
  show cv_At X _ _ σ 0 [(0, .ref 26), (1, .int (nI p))] []
  refine cv_aload_n C (pc' := 1) rfl (D 0 (0, .aload_n 0, 1) rfl) rfl (j := 0) rfl ?_
  refine cv_iload_n C (pc' := 2) rfl (D 1 (1, .iload_n 1, 1) rfl) rfl (j := 1) rfl ?_
  refine cv_callV C (pc' := 5) rfl (k0 := 26) (ci := 4) (As := [.int (nI p)]) (rest := []) (idx := 22) (np := 1) (kX4_codeAt tx fr n g p σ htx hX (by omega)) (by decide) rfl rfl rfl (by decide +kernel) rfl wmX4_22 wi_yX4_codeAt ws_yX4_codeAt wn_X4 wc_yX4_codeAt (by decide) (by decide) (D 2 (2, .invokevirtual 22, 3) rfl) (Nat.le_of_ble_eq_true rfl) rfl (fun w9 u9 h9 => ?_)
  rw [h9.1, h9.2]
  show cv_At X _ _ σ 5 _ [.int (g p)]
  rcases cv_c112 (g p) with hc | hc | hc | hc | hc | hc
  · skip
    refine cv_top (w := nI 112) hc ?_
    refine cv_tableIn C (D 3 (5, .tableswitch 41 112 116 #[35, 41, 41, 37, 39], 35) rfl) (tgt := 40) (by decide) (by decide) rfl (by decide) ?_
    refine cv_iconst C (pc' := 41) rfl (D 4 (40, .iconst 0, 1) rfl) (v := nI 0) (by decide) ?_
    exact cv_iret C Rt rfl (D 5 (41, .ireturn, 1) rfl) ⟨congrArg (fun z => some (Value.int z)) (by unfold cv_kd; rw [hc]; decide), rfl⟩
  · skip
    refine cv_top (w := nI 113) hc ?_
    refine cv_tableIn C (D 3 (5, .tableswitch 41 112 116 #[35, 41, 41, 37, 39], 35) rfl) (tgt := 46) (by decide) (by decide) rfl (by decide) ?_
    refine cv_bipush C (pc' := 48) rfl (D 10 (46, .bipush (-9), 2) rfl) (v := -9) (by decide) ?_
    exact cv_iret C Rt rfl (D 11 (48, .ireturn, 1) rfl) ⟨congrArg (fun z => some (Value.int z)) (by unfold cv_kd; rw [hc]; decide), rfl⟩
  · skip
    refine cv_top (w := nI 114) hc ?_
    refine cv_tableIn C (D 3 (5, .tableswitch 41 112 116 #[35, 41, 41, 37, 39], 35) rfl) (tgt := 46) (by decide) (by decide) rfl (by decide) ?_
    refine cv_bipush C (pc' := 48) rfl (D 10 (46, .bipush (-9), 2) rfl) (v := -9) (by decide) ?_
    exact cv_iret C Rt rfl (D 11 (48, .ireturn, 1) rfl) ⟨congrArg (fun z => some (Value.int z)) (by unfold cv_kd; rw [hc]; decide), rfl⟩
  · skip
    refine cv_top (w := nI 115) hc ?_
    refine cv_tableIn C (D 3 (5, .tableswitch 41 112 116 #[35, 41, 41, 37, 39], 35) rfl) (tgt := 42) (by decide) (by decide) rfl (by decide) ?_
    refine cv_iconst C (pc' := 43) rfl (D 6 (42, .iconst 1, 1) rfl) (v := nI 1) (by decide) ?_
    exact cv_iret C Rt rfl (D 7 (43, .ireturn, 1) rfl) ⟨congrArg (fun z => some (Value.int z)) (by unfold cv_kd; rw [hc]; decide), rfl⟩
  · skip
    refine cv_top (w := nI 116) hc ?_
    refine cv_tableIn C (D 3 (5, .tableswitch 41 112 116 #[35, 41, 41, 37, 39], 35) rfl) (tgt := 44) (by decide) (by decide) rfl (by decide) ?_
    refine cv_iconst C (pc' := 45) rfl (D 8 (44, .iconst 2, 1) rfl) (v := nI 2) (by decide) ?_
    exact cv_iret C Rt rfl (D 9 (45, .ireturn, 1) rfl) ⟨congrArg (fun z => some (Value.int z)) (by unfold cv_kd; rw [hc]; decide), rfl⟩
  · skip
    refine cv_tableOut C (D 3 (5, .tableswitch 41 112 116 #[35, 41, 41, 37, 39], 35) rfl) (tgt := 46) hc (by decide) ?_
    refine cv_bipush C (pc' := 48) rfl (D 10 (46, .bipush (-9), 2) rfl) (v := -9) (by decide) ?_
    exact cv_iret C Rt rfl (D 11 (48, .ireturn, 1) rfl) ⟨congrArg (fun z => some (Value.int z)) (by unfold cv_kd; rw [if_neg (cv_cn hc (nI 112) (by decide)), if_neg (cv_cn hc (nI 115) (by decide)), if_neg (cv_cn hc (nI 116) (by decide))]; rfl), rfl⟩

set_option maxHeartbeats 4000000 in
set_option maxRecDepth 100000 in
theorem kX4_isDigitAt (tx fr n : Nat) (g : Nat → Int32) (p lo hi : Nat) (σ : cv_St) (htx : 6 ≤ tx ∧ tx < 10) (hX : cv_TX tx fr n g σ) (hp : p < n) : cv_Ct yX4_isDigitAt cX4_isDigitAt 4 (some .boolean) 2 0 0 27 (cv_shT tx) [.ref 26, .int (nI p), .int (nI lo), .int (nI hi)] σ (cv_pu (.int (cv_b (cv_dg (g p) lo hi))) σ) := by
  refine cv_enter (own := RX4) (by decide) rfl (Nat.le_of_ble_eq_true rfl) ?_
  intro X a C Rt hRm
  have D := @cv_dec _ _ dkX4_isDigitAt
  have hn60 := hX.2.2.1
  show cv_At X _ _ σ 0 [(0, .ref 26), (1, .int (nI p)), (2, .int (nI lo)), (3, .int (nI hi))] []
  refine cv_aload_n C (pc' := 1) rfl (D 0 (0, .aload_n 0, 1) rfl) rfl (j := 0) rfl ?_
  refine cv_iload_n C (pc' := 2) rfl (D 1 (1, .iload_n 1, 1) rfl) rfl (j := 1) rfl ?_
  refine cv_callV C (pc' := 5) rfl (k0 := 26) (ci := 4) (As := [.int (nI p)]) (rest := []) (idx := 26) (np := 1) (kX4_digitAt tx fr n g p σ htx hX (by omega)) (by decide) rfl rfl rfl (by decide +kernel) rfl wmX4_26 wi_yX4_digitAt ws_yX4_digitAt wn_X4 wc_yX4_digitAt (by decide) (by decide) (D 2 (2, .invokevirtual 26, 3) rfl) (Nat.le_of_ble_eq_true rfl) rfl (fun w9 u9 h9 => ?_)
  rw [h9.1, h9.2]
  show cv_At X _ _ σ 5 _ [.int (g p - nI 48)]
  refine cv_iload_n C (pc' := 6) rfl (D 3 (5, .iload_n 2, 1) rfl) rfl (j := 2) rfl ?_
  refine cv_icmp_lt C (pc' := 9) rfl (tgt := 22) (D 4 (6, .if_icmp .lt 16, 3) rfl) (by decide) (fun b6 => ?_) (fun b6 => ?_)
  · skip
    refine cv_iconst C (pc' := 23) rfl (D 12 (22, .iconst 0, 1) rfl) (v := nI 0) (by decide) ?_
    exact cv_iret C Rt (by decide) (D 13 (23, .ireturn, 1) rfl) ⟨congrArg (fun z => some (Value.int z)) (by rw [cv_dg, decide_eq_false (fun h => Int32.not_lt.mpr h.1 b6)]; rfl), rfl⟩
  · skip
    refine cv_aload_n C (pc' := 10) rfl (D 5 (9, .aload_n 0, 1) rfl) rfl (j := 0) rfl ?_
    refine cv_iload_n C (pc' := 11) rfl (D 6 (10, .iload_n 1, 1) rfl) rfl (j := 1) rfl ?_
    refine cv_callV C (pc' := 14) rfl (k0 := 26) (ci := 4) (As := [.int (nI p)]) (rest := []) (idx := 26) (np := 1) (kX4_digitAt tx fr n g p σ htx hX (by omega)) (by decide) rfl rfl rfl (by decide +kernel) rfl wmX4_26 wi_yX4_digitAt ws_yX4_digitAt wn_X4 wc_yX4_digitAt (by decide) (by decide) (D 7 (11, .invokevirtual 26, 3) rfl) (Nat.le_of_ble_eq_true rfl) rfl (fun w9 u9 h9 => ?_)
    rw [h9.1, h9.2]
    show cv_At X _ _ σ 14 _ [.int (g p - nI 48)]
    refine cv_iload_n C (pc' := 15) rfl (D 8 (14, .iload_n 3, 1) rfl) rfl (j := 3) rfl ?_
    refine cv_icmp_gt C (pc' := 18) rfl (tgt := 22) (D 9 (15, .if_icmp .gt 7, 3) rfl) (by decide) (fun b15 => ?_) (fun b15 => ?_)
    · skip
      refine cv_iconst C (pc' := 23) rfl (D 12 (22, .iconst 0, 1) rfl) (v := nI 0) (by decide) ?_
      exact cv_iret C Rt (by decide) (D 13 (23, .ireturn, 1) rfl) ⟨congrArg (fun z => some (Value.int z)) (by rw [cv_dg, decide_eq_false (fun h => Int32.not_lt.mpr h.2 b15)]; rfl), rfl⟩
    · skip
      refine cv_iconst C (pc' := 19) rfl (D 10 (18, .iconst 1, 1) rfl) (v := nI 1) (by decide) ?_
      refine cv_goto C (tgt := 23) (D 11 (19, .goto 4, 3) rfl) (by decide) ?_
      exact cv_iret C Rt (by decide) (D 13 (23, .ireturn, 1) rfl) ⟨congrArg (fun z => some (Value.int z)) (by rw [cv_dg, decide_eq_true ⟨Int32.not_lt.mp b6, Int32.not_lt.mp b15⟩]; rfl), rfl⟩

set_option maxHeartbeats 4000000 in
set_option maxRecDepth 100000 in
theorem kX4_givesGoOnAt (tx fr n : Nat) (g : Nat → Int32) (p q : Nat) (σ : cv_St) (htx : 6 ≤ tx ∧ tx < 10) (hX : cv_TX tx fr n g σ) (hp : p < n) (hq4 : q < 4) (hp2 : 2 ≤ p) : cv_Ct yX4_givesGoOnAt cX4_givesGoOnAt 4 (some .boolean) 3 0 0 27 (cv_shT tx) [.ref 26, .int (nI p), .int (nI q)] σ (cv_pu (.int (cv_b (cv_gg g p q))) σ) := by
  refine cv_enter (own := RX4) (by decide) rfl (Nat.le_of_ble_eq_true rfl) ?_
  intro X a C Rt hRm
  have D := @cv_dec _ _ dkX4_givesGoOnAt
  have hn60 := hX.2.2.1
  show cv_At X _ _ σ 0 [(0, .ref 26), (1, .int (nI p)), (2, .int (nI q))] []
  refine cv_iload_n C (pc' := 1) rfl (D 0 (0, .iload_n 2, 1) rfl) rfl (j := 2) rfl ?_
  have hq9 : q = 0 ∨ q = 1 ∨ q = 2 ∨ 2 < q := by omega
  rcases hq9 with hq | hq | hq | hq
  · skip
    refine cv_top (w := nI 0) (congrArg nI hq) ?_
    refine cv_tableIn C (D 1 (1, .tableswitch 75 0 2 #[27, 43, 51], 27) rfl) (tgt := 28) (by decide) (by decide) rfl (by decide) ?_
    refine cv_aload_n C (pc' := 29) rfl (D 2 (28, .aload_n 0, 1) rfl) rfl (j := 0) rfl ?_
    refine cv_iload_n C (pc' := 30) rfl (D 3 (29, .iload_n 1, 1) rfl) rfl (j := 1) rfl ?_
    refine cv_callV C (pc' := 33) rfl (k0 := 26) (ci := 4) (As := [.int (nI p)]) (rest := []) (idx := 22) (np := 1) (kX4_codeAt tx fr n g p σ htx hX (by omega)) (by decide) rfl rfl rfl (by decide +kernel) rfl wmX4_22 wi_yX4_codeAt ws_yX4_codeAt wn_X4 wc_yX4_codeAt (by decide) (by decide) (D 4 (30, .invokevirtual 22, 3) rfl) (Nat.le_of_ble_eq_true rfl) rfl (fun w9 u9 h9 => ?_)
    rw [h9.1, h9.2]
    show cv_At X _ _ σ 33 _ [.int (g p)]
    refine cv_bipush C (pc' := 35) rfl (D 5 (33, .bipush 59, 2) rfl) (v := nI 59) (by decide) ?_
    refine cv_icmp_ne C (pc' := 38) rfl (tgt := 42) (D 6 (35, .if_icmp .ne 7, 3) rfl) (by decide) (fun b35 => ?_) (fun b35 => ?_)
    · skip
      refine cv_iconst C (pc' := 43) rfl (D 9 (42, .iconst 0, 1) rfl) (v := nI 0) (by decide) ?_
      exact cv_iret C Rt (by decide) (D 10 (43, .ireturn, 1) rfl) ⟨congrArg (fun z => some (Value.int z)) (by unfold cv_gg; rw [if_pos hq]; rw [decide_eq_false b35]; rfl), rfl⟩
    · skip
      refine cv_iconst C (pc' := 39) rfl (D 7 (38, .iconst 1, 1) rfl) (v := nI 1) (by decide) ?_
      refine cv_goto C (tgt := 43) (D 8 (39, .goto 4, 3) rfl) (by decide) ?_
      exact cv_iret C Rt (by decide) (D 10 (43, .ireturn, 1) rfl) ⟨congrArg (fun z => some (Value.int z)) (by unfold cv_gg; rw [if_pos hq]; rw [decide_eq_true b35]; rfl), rfl⟩
  · skip
    refine cv_top (w := nI 1) (congrArg nI hq) ?_
    refine cv_tableIn C (D 1 (1, .tableswitch 75 0 2 #[27, 43, 51], 27) rfl) (tgt := 44) (by decide) (by decide) rfl (by decide) ?_
    refine cv_aload_n C (pc' := 45) rfl (D 11 (44, .aload_n 0, 1) rfl) rfl (j := 0) rfl ?_
    refine cv_iload_n C (pc' := 46) rfl (D 12 (45, .iload_n 1, 1) rfl) rfl (j := 1) rfl ?_
    refine cv_iconst C (pc' := 47) rfl (D 13 (46, .iconst 0, 1) rfl) (v := nI 0) (by decide) ?_
    refine cv_iconst C (pc' := 48) rfl (D 14 (47, .iconst 2, 1) rfl) (v := nI 2) (by decide) ?_
    refine cv_callV C (pc' := 51) rfl (k0 := 26) (ci := 4) (As := [.int (nI p), .int (nI 0), .int (nI 2)]) (rest := []) (idx := 33) (np := 3) (kX4_isDigitAt tx fr n g p 0 2 σ htx hX (by omega)) (by decide) rfl rfl rfl (by decide +kernel) rfl wmX4_33 wi_yX4_isDigitAt ws_yX4_isDigitAt wn_X4 wc_yX4_isDigitAt (by decide) (by decide) (D 15 (48, .invokevirtual 33, 3) rfl) (Nat.le_of_ble_eq_true rfl) rfl (fun w9 u9 h9 => ?_)
    rw [h9.1, h9.2]
    show cv_At X _ _ σ 51 _ [.int (cv_b (cv_dg (g p) 0 2))]
    exact cv_iret C Rt (cv_b_nar _) (D 16 (51, .ireturn, 1) rfl) ⟨congrArg (fun z => some (Value.int z)) (by unfold cv_gg; rw [if_neg (by omega), if_pos hq]), rfl⟩
  · skip
    refine cv_top (w := nI 2) (congrArg nI hq) ?_
    refine cv_tableIn C (D 1 (1, .tableswitch 75 0 2 #[27, 43, 51], 27) rfl) (tgt := 52) (by decide) (by decide) rfl (by decide) ?_
    refine cv_aload_n C (pc' := 53) rfl (D 17 (52, .aload_n 0, 1) rfl) rfl (j := 0) rfl ?_
    refine cv_iload_n C (pc' := 54) rfl (D 18 (53, .iload_n 1, 1) rfl) rfl (j := 1) rfl ?_
    refine cv_iconst C (pc' := 55) rfl (D 19 (54, .iconst 0, 1) rfl) (v := nI 0) (by decide) ?_
    refine cv_aload_n C (pc' := 56) rfl (D 20 (55, .aload_n 0, 1) rfl) rfl (j := 0) rfl ?_
    refine cv_iload_n C (pc' := 57) rfl (D 21 (56, .iload_n 1, 1) rfl) rfl (j := 1) rfl ?_
    refine cv_iconst C (pc' := 58) rfl (D 22 (57, .iconst 1, 1) rfl) (v := nI 1) (by decide) ?_
    refine cv_isubN C (pc' := 59) rfl (by omega) (D 23 (58, .isub, 1) rfl) ?_
    refine cv_callV C (pc' := 62) rfl (k0 := 26) (ci := 4) (As := [.int (nI (p - 1))]) (rest := [.int (nI 0), .int (nI p), .ref 26]) (idx := 26) (np := 1) (kX4_digitAt tx fr n g (p - 1) σ htx hX (by omega)) (by decide) rfl rfl rfl (by decide +kernel) rfl wmX4_26 wi_yX4_digitAt ws_yX4_digitAt wn_X4 wc_yX4_digitAt (by decide) (by decide) (D 24 (59, .invokevirtual 26, 3) rfl) (Nat.le_of_ble_eq_true rfl) rfl (fun w9 u9 h9 => ?_)
    rw [h9.1, h9.2]
    show cv_At X _ _ σ 62 _ [.int (g (p - 1) - nI 48), .int (nI 0), .int (nI p), .ref 26]
    refine cv_iconst C (pc' := 63) rfl (D 25 (62, .iconst 2, 1) rfl) (v := nI 2) (by decide) ?_
    refine cv_icmp_ne C (pc' := 66) rfl (tgt := 70) (D 26 (63, .if_icmp .ne 7, 3) rfl) (by decide) (fun b63 => ?_) (fun b63 => ?_)
    · skip
      refine cv_bipush C (pc' := 72) rfl (D 29 (70, .bipush 9, 2) rfl) (v := nI 9) (by decide) ?_
      refine cv_callV C (pc' := 75) rfl (k0 := 26) (ci := 4) (As := [.int (nI p), .int (nI 0), .int (nI 9)]) (rest := []) (idx := 33) (np := 3) (kX4_isDigitAt tx fr n g p 0 9 σ htx hX (by omega)) (by decide) rfl rfl rfl (by decide +kernel) rfl wmX4_33 wi_yX4_isDigitAt ws_yX4_isDigitAt wn_X4 wc_yX4_isDigitAt (by decide) (by decide) (D 30 (72, .invokevirtual 33, 3) rfl) (Nat.le_of_ble_eq_true rfl) rfl (fun w9 u9 h9 => ?_)
      rw [h9.1, h9.2]
      show cv_At X _ _ σ 75 _ [.int (cv_b (cv_dg (g p) 0 9))]
      exact cv_iret C Rt (cv_b_nar _) (D 31 (75, .ireturn, 1) rfl) ⟨congrArg (fun z => some (Value.int z)) (by unfold cv_gg; rw [if_neg (by omega), if_neg (by omega), if_pos hq]; rw [if_neg b63]), rfl⟩
    · skip
      refine cv_iconst C (pc' := 67) rfl (D 27 (66, .iconst 5, 1) rfl) (v := nI 5) (by decide) ?_
      refine cv_goto C (tgt := 72) (D 28 (67, .goto 5, 3) rfl) (by decide) ?_
      refine cv_callV C (pc' := 75) rfl (k0 := 26) (ci := 4) (As := [.int (nI p), .int (nI 0), .int (nI 5)]) (rest := []) (idx := 33) (np := 3) (kX4_isDigitAt tx fr n g p 0 5 σ htx hX (by omega)) (by decide) rfl rfl rfl (by decide +kernel) rfl wmX4_33 wi_yX4_isDigitAt ws_yX4_isDigitAt wn_X4 wc_yX4_isDigitAt (by decide) (by decide) (D 30 (72, .invokevirtual 33, 3) rfl) (Nat.le_of_ble_eq_true rfl) rfl (fun w9 u9 h9 => ?_)
      rw [h9.1, h9.2]
      show cv_At X _ _ σ 75 _ [.int (cv_b (cv_dg (g p) 0 5))]
      exact cv_iret C Rt (cv_b_nar _) (D 31 (75, .ireturn, 1) rfl) ⟨congrArg (fun z => some (Value.int z)) (by unfold cv_gg; rw [if_neg (by omega), if_neg (by omega), if_pos hq]; rw [if_pos b63]), rfl⟩
  · skip
    refine cv_tableOut C (D 1 (1, .tableswitch 75 0 2 #[27, 43, 51], 27) rfl) (tgt := 76) (Or.inr (by rw [nI_toInt (by omega)]; omega)) (by decide) ?_
    refine cv_aload_n C (pc' := 77) rfl (D 32 (76, .aload_n 0, 1) rfl) rfl (j := 0) rfl ?_
    refine cv_iload_n C (pc' := 78) rfl (D 33 (77, .iload_n 1, 1) rfl) rfl (j := 1) rfl ?_
    refine cv_iconst C (pc' := 79) rfl (D 34 (78, .iconst 2, 1) rfl) (v := nI 2) (by decide) ?_
    refine cv_isubN C (pc' := 80) rfl (by omega) (D 35 (79, .isub, 1) rfl) ?_
    refine cv_callV C (pc' := 83) rfl (k0 := 26) (ci := 4) (As := [.int (nI (p - 2))]) (rest := []) (idx := 26) (np := 1) (kX4_digitAt tx fr n g (p - 2) σ htx hX (by omega)) (by decide) rfl rfl rfl (by decide +kernel) rfl wmX4_26 wi_yX4_digitAt ws_yX4_digitAt wn_X4 wc_yX4_digitAt (by decide) (by decide) (D 36 (80, .invokevirtual 26, 3) rfl) (Nat.le_of_ble_eq_true rfl) rfl (fun w9 u9 h9 => ?_)
    rw [h9.1, h9.2]
    show cv_At X _ _ σ 83 _ [.int (g (p - 2) - nI 48)]
    refine cv_iconst C (pc' := 84) rfl (D 37 (83, .iconst 2, 1) rfl) (v := nI 2) (by decide) ?_
    refine cv_icmp_ne C (pc' := 87) rfl (tgt := 102) (D 38 (84, .if_icmp .ne 18, 3) rfl) (by decide) (fun b84 => ?_) (fun b84 => ?_)
    · skip
      refine cv_iconst C (pc' := 103) rfl (D 48 (102, .iconst 0, 1) rfl) (v := nI 0) (by decide) ?_
      refine cv_istore_n C (pc' := 104) rfl (D 49 (103, .istore_n 3, 1) rfl) rfl (by decide) (lv' := [(3, .int (nI 0)), (0, .ref 26), (1, .int (nI p)), (2, .int (nI q))]) rfl ?_
      refine cv_aload_n C (pc' := 105) rfl (D 50 (104, .aload_n 0, 1) rfl) rfl (j := 1) rfl ?_
      refine cv_iload_n C (pc' := 106) rfl (D 51 (105, .iload_n 1, 1) rfl) rfl (j := 2) rfl ?_
      refine cv_iconst C (pc' := 107) rfl (D 52 (106, .iconst 0, 1) rfl) (v := nI 0) (by decide) ?_
      refine cv_iload_n C (pc' := 108) rfl (D 53 (107, .iload_n 3, 1) rfl) rfl (j := 0) rfl ?_
      refine cv_if_eq C (pc' := 111) rfl (tgt := 115) (D 54 (108, .ifCond .eq 7, 3) rfl) (by decide) (fun _ => ?_) (fun h => absurd h (by decide))
      refine cv_bipush C (pc' := 117) rfl (D 57 (115, .bipush 9, 2) rfl) (v := nI 9) (by decide) ?_
      refine cv_callV C (pc' := 120) rfl (k0 := 26) (ci := 4) (As := [.int (nI p), .int (nI 0), .int (nI 9)]) (rest := []) (idx := 33) (np := 3) (kX4_isDigitAt tx fr n g p 0 9 σ htx hX (by omega)) (by decide) rfl rfl rfl (by decide +kernel) rfl wmX4_33 wi_yX4_isDigitAt ws_yX4_isDigitAt wn_X4 wc_yX4_isDigitAt (by decide) (by decide) (D 58 (117, .invokevirtual 33, 3) rfl) (Nat.le_of_ble_eq_true rfl) rfl (fun w9 u9 h9 => ?_)
      rw [h9.1, h9.2]
      show cv_At X _ _ σ 120 _ [.int (cv_b (cv_dg (g p) 0 9))]
      exact cv_iret C Rt (cv_b_nar _) (D 59 (120, .ireturn, 1) rfl) ⟨congrArg (fun z => some (Value.int z)) (by unfold cv_gg; rw [if_neg (by omega), if_neg (by omega), if_neg (by omega)]; rw [if_neg (fun h => b84 h.1)]), rfl⟩
    · skip
      refine cv_aload_n C (pc' := 88) rfl (D 39 (87, .aload_n 0, 1) rfl) rfl (j := 0) rfl ?_
      refine cv_iload_n C (pc' := 89) rfl (D 40 (88, .iload_n 1, 1) rfl) rfl (j := 1) rfl ?_
      refine cv_iconst C (pc' := 90) rfl (D 41 (89, .iconst 1, 1) rfl) (v := nI 1) (by decide) ?_
      refine cv_isubN C (pc' := 91) rfl (by omega) (D 42 (90, .isub, 1) rfl) ?_
      refine cv_callV C (pc' := 94) rfl (k0 := 26) (ci := 4) (As := [.int (nI (p - 1))]) (rest := []) (idx := 26) (np := 1) (kX4_digitAt tx fr n g (p - 1) σ htx hX (by omega)) (by decide) rfl rfl rfl (by decide +kernel) rfl wmX4_26 wi_yX4_digitAt ws_yX4_digitAt wn_X4 wc_yX4_digitAt (by decide) (by decide) (D 43 (91, .invokevirtual 26, 3) rfl) (Nat.le_of_ble_eq_true rfl) rfl (fun w9 u9 h9 => ?_)
      rw [h9.1, h9.2]
      show cv_At X _ _ σ 94 _ [.int (g (p - 1) - nI 48)]
      refine cv_iconst C (pc' := 95) rfl (D 44 (94, .iconst 5, 1) rfl) (v := nI 5) (by decide) ?_
      refine cv_icmp_ne C (pc' := 98) rfl (tgt := 102) (D 45 (95, .if_icmp .ne 7, 3) rfl) (by decide) (fun b95 => ?_) (fun b95 => ?_)
      · skip
        refine cv_iconst C (pc' := 103) rfl (D 48 (102, .iconst 0, 1) rfl) (v := nI 0) (by decide) ?_
        refine cv_istore_n C (pc' := 104) rfl (D 49 (103, .istore_n 3, 1) rfl) rfl (by decide) (lv' := [(3, .int (nI 0)), (0, .ref 26), (1, .int (nI p)), (2, .int (nI q))]) rfl ?_
        refine cv_aload_n C (pc' := 105) rfl (D 50 (104, .aload_n 0, 1) rfl) rfl (j := 1) rfl ?_
        refine cv_iload_n C (pc' := 106) rfl (D 51 (105, .iload_n 1, 1) rfl) rfl (j := 2) rfl ?_
        refine cv_iconst C (pc' := 107) rfl (D 52 (106, .iconst 0, 1) rfl) (v := nI 0) (by decide) ?_
        refine cv_iload_n C (pc' := 108) rfl (D 53 (107, .iload_n 3, 1) rfl) rfl (j := 0) rfl ?_
        refine cv_if_eq C (pc' := 111) rfl (tgt := 115) (D 54 (108, .ifCond .eq 7, 3) rfl) (by decide) (fun _ => ?_) (fun h => absurd h (by decide))
        refine cv_bipush C (pc' := 117) rfl (D 57 (115, .bipush 9, 2) rfl) (v := nI 9) (by decide) ?_
        refine cv_callV C (pc' := 120) rfl (k0 := 26) (ci := 4) (As := [.int (nI p), .int (nI 0), .int (nI 9)]) (rest := []) (idx := 33) (np := 3) (kX4_isDigitAt tx fr n g p 0 9 σ htx hX (by omega)) (by decide) rfl rfl rfl (by decide +kernel) rfl wmX4_33 wi_yX4_isDigitAt ws_yX4_isDigitAt wn_X4 wc_yX4_isDigitAt (by decide) (by decide) (D 58 (117, .invokevirtual 33, 3) rfl) (Nat.le_of_ble_eq_true rfl) rfl (fun w9 u9 h9 => ?_)
        rw [h9.1, h9.2]
        show cv_At X _ _ σ 120 _ [.int (cv_b (cv_dg (g p) 0 9))]
        exact cv_iret C Rt (cv_b_nar _) (D 59 (120, .ireturn, 1) rfl) ⟨congrArg (fun z => some (Value.int z)) (by unfold cv_gg; rw [if_neg (by omega), if_neg (by omega), if_neg (by omega)]; rw [if_neg (fun h => b95 h.2)]), rfl⟩
      · skip
        refine cv_iconst C (pc' := 99) rfl (D 46 (98, .iconst 1, 1) rfl) (v := nI 1) (by decide) ?_
        refine cv_goto C (tgt := 103) (D 47 (99, .goto 4, 3) rfl) (by decide) ?_
        refine cv_istore_n C (pc' := 104) rfl (D 49 (103, .istore_n 3, 1) rfl) rfl (by decide) (lv' := [(3, .int (nI 1)), (0, .ref 26), (1, .int (nI p)), (2, .int (nI q))]) rfl ?_
        refine cv_aload_n C (pc' := 105) rfl (D 50 (104, .aload_n 0, 1) rfl) rfl (j := 1) rfl ?_
        refine cv_iload_n C (pc' := 106) rfl (D 51 (105, .iload_n 1, 1) rfl) rfl (j := 2) rfl ?_
        refine cv_iconst C (pc' := 107) rfl (D 52 (106, .iconst 0, 1) rfl) (v := nI 0) (by decide) ?_
        refine cv_iload_n C (pc' := 108) rfl (D 53 (107, .iload_n 3, 1) rfl) rfl (j := 0) rfl ?_
        refine cv_if_eq C (pc' := 111) rfl (tgt := 115) (D 54 (108, .ifCond .eq 7, 3) rfl) (by decide) (fun h => absurd h (by decide)) (fun _ => ?_)
        refine cv_iconst C (pc' := 112) rfl (D 55 (111, .iconst 5, 1) rfl) (v := nI 5) (by decide) ?_
        refine cv_goto C (tgt := 117) (D 56 (112, .goto 5, 3) rfl) (by decide) ?_
        refine cv_callV C (pc' := 120) rfl (k0 := 26) (ci := 4) (As := [.int (nI p), .int (nI 0), .int (nI 5)]) (rest := []) (idx := 33) (np := 3) (kX4_isDigitAt tx fr n g p 0 5 σ htx hX (by omega)) (by decide) rfl rfl rfl (by decide +kernel) rfl wmX4_33 wi_yX4_isDigitAt ws_yX4_isDigitAt wn_X4 wc_yX4_isDigitAt (by decide) (by decide) (D 58 (117, .invokevirtual 33, 3) rfl) (Nat.le_of_ble_eq_true rfl) rfl (fun w9 u9 h9 => ?_)
        rw [h9.1, h9.2]
        show cv_At X _ _ σ 120 _ [.int (cv_b (cv_dg (g p) 0 5))]
        exact cv_iret C Rt (cv_b_nar _) (D 59 (120, .ireturn, 1) rfl) ⟨congrArg (fun z => some (Value.int z)) (by unfold cv_gg; rw [if_neg (by omega), if_neg (by omega), if_neg (by omega)]; rw [if_pos ⟨b84, b95⟩]), rfl⟩

theorem cv_kd_le {c : Int32} {z : Nat} (h : cv_kd c = some z) : z ≤ 2 := by
  unfold cv_kd at h
  split at h
  · cases h; decide
  · split at h
    · cases h; decide
    · split at h
      · cases h; decide
      · cases h
set_option maxHeartbeats 4000000 in
set_option maxRecDepth 100000 in
theorem kX4_passGoesOnAt (tx fr n : Nat) (g : Nat → Int32) (p q : Nat) (σ : cv_St) (htx : 6 ≤ tx ∧ tx < 10) (hX : cv_TX tx fr n g σ) (hp : p < n) (hq6 : q < 6) (hp1 : 1 ≤ p) : cv_Ct yX4_passGoesOnAt cX4_passGoesOnAt 3 (some .boolean) 3 0 0 27 (cv_shT tx) [.ref 26, .int (nI p), .int (nI q)] σ (cv_pu (.int (cv_b (cv_pg g p q))) σ) := by
  refine cv_enter (own := RX4) (by decide) rfl (Nat.le_of_ble_eq_true rfl) ?_
  intro X a C Rt hRm
  have D := @cv_dec _ _ dkX4_passGoesOnAt
  have hn60 := hX.2.2.1
  show cv_At X _ _ σ 0 [(0, .ref 26), (1, .int (nI p)), (2, .int (nI q))] []
  refine cv_iload_n C (pc' := 1) rfl (D 0 (0, .iload_n 2, 1) rfl) rfl (j := 2) rfl ?_
  have hq9 : q = 0 ∨ q = 1 ∨ q = 2 ∨ q = 3 ∨ q = 4 ∨ 4 < q := by omega
  rcases hq9 with hq | hq | hq | hq | hq | hq
  · skip
    refine cv_top (w := nI 0) (congrArg nI hq) ?_
    refine cv_tableIn C (D 1 (1, .tableswitch 114 0 4 #[35, 51, 67, 75, 106], 35) rfl) (tgt := 36) (by decide) (by decide) rfl (by decide) ?_
    refine cv_aload_n C (pc' := 37) rfl (D 2 (36, .aload_n 0, 1) rfl) rfl (j := 0) rfl ?_
    refine cv_iload_n C (pc' := 38) rfl (D 3 (37, .iload_n 1, 1) rfl) rfl (j := 1) rfl ?_
    refine cv_callV C (pc' := 41) rfl (k0 := 26) (ci := 4) (As := [.int (nI p)]) (rest := []) (idx := 22) (np := 1) (kX4_codeAt tx fr n g p σ htx hX (by omega)) (by decide) rfl rfl rfl (by decide +kernel) rfl wmX4_22 wi_yX4_codeAt ws_yX4_codeAt wn_X4 wc_yX4_codeAt (by decide) (by decide) (D 4 (38, .invokevirtual 22, 3) rfl) (Nat.le_of_ble_eq_true rfl) rfl (fun w9 u9 h9 => ?_)
    rw [h9.1, h9.2]
    show cv_At X _ _ σ 41 _ [.int (g p)]
    refine cv_bipush C (pc' := 43) rfl (D 5 (41, .bipush 44, 2) rfl) (v := nI 44) (by decide) ?_
    refine cv_icmp_ne C (pc' := 46) rfl (tgt := 50) (D 6 (43, .if_icmp .ne 7, 3) rfl) (by decide) (fun b43 => ?_) (fun b43 => ?_)
    · skip
      refine cv_iconst C (pc' := 51) rfl (D 9 (50, .iconst 0, 1) rfl) (v := nI 0) (by decide) ?_
      exact cv_iret C Rt (by decide) (D 10 (51, .ireturn, 1) rfl) ⟨congrArg (fun z => some (Value.int z)) (by unfold cv_pg; rw [if_pos hq]; rw [decide_eq_false b43]; rfl), rfl⟩
    · skip
      refine cv_iconst C (pc' := 47) rfl (D 7 (46, .iconst 1, 1) rfl) (v := nI 1) (by decide) ?_
      refine cv_goto C (tgt := 51) (D 8 (47, .goto 4, 3) rfl) (by decide) ?_
      exact cv_iret C Rt (by decide) (D 10 (51, .ireturn, 1) rfl) ⟨congrArg (fun z => some (Value.int z)) (by unfold cv_pg; rw [if_pos hq]; rw [decide_eq_true b43]; rfl), rfl⟩
  · skip
    refine cv_top (w := nI 1) (congrArg nI hq) ?_
    refine cv_tableIn C (D 1 (1, .tableswitch 114 0 4 #[35, 51, 67, 75, 106], 35) rfl) (tgt := 52) (by decide) (by decide) rfl (by decide) ?_
    refine cv_aload_n C (pc' := 53) rfl (D 11 (52, .aload_n 0, 1) rfl) rfl (j := 0) rfl ?_
    refine cv_iload_n C (pc' := 54) rfl (D 12 (53, .iload_n 1, 1) rfl) rfl (j := 1) rfl ?_
    refine cv_callV C (pc' := 57) rfl (k0 := 26) (ci := 4) (As := [.int (nI p)]) (rest := []) (idx := 44) (np := 1) (kX4_kindAt tx fr n g p σ htx hX (by omega)) (by decide) rfl rfl rfl (by decide +kernel) rfl wmX4_44 wi_yX4_kindAt ws_yX4_kindAt wn_X4 wc_yX4_kindAt (by decide) (by decide) (D 13 (54, .invokevirtual 44, 3) rfl) (Nat.le_of_ble_eq_true rfl) rfl (fun w9 u9 h9 => ?_)
    rw [h9.1, h9.2]
    show cv_At X _ _ σ 57 _ [.int (cv_o (cv_kd (g p)))]
    refine cv_bipush C (pc' := 59) rfl (D 14 (57, .bipush (-9), 2) rfl) (v := -9) (by decide) ?_
    refine cv_icmp_eqO C (pc' := 62) rfl (fun z h => Nat.lt_of_le_of_lt (cv_kd_le h) (by decide)) (tgt := 66) (D 15 (59, .if_icmp .eq 7, 3) rfl) (by decide) (fun b59 => ?_) (fun z59 b59 => ?_)
    · skip
      refine cv_iconst C (pc' := 67) rfl (D 18 (66, .iconst 0, 1) rfl) (v := nI 0) (by decide) ?_
      exact cv_iret C Rt (by decide) (D 19 (67, .ireturn, 1) rfl) ⟨congrArg (fun z => some (Value.int z)) (by unfold cv_pg; rw [if_neg (by omega), if_pos hq]; rw [b59]; rfl), rfl⟩
    · skip
      refine cv_iconst C (pc' := 63) rfl (D 16 (62, .iconst 1, 1) rfl) (v := nI 1) (by decide) ?_
      refine cv_goto C (tgt := 67) (D 17 (63, .goto 4, 3) rfl) (by decide) ?_
      exact cv_iret C Rt (by decide) (D 19 (67, .ireturn, 1) rfl) ⟨congrArg (fun z => some (Value.int z)) (by unfold cv_pg; rw [if_neg (by omega), if_pos hq]; rw [b59]; rfl), rfl⟩
  · skip
    refine cv_top (w := nI 2) (congrArg nI hq) ?_
    refine cv_tableIn C (D 1 (1, .tableswitch 114 0 4 #[35, 51, 67, 75, 106], 35) rfl) (tgt := 68) (by decide) (by decide) rfl (by decide) ?_
    refine cv_aload_n C (pc' := 69) rfl (D 20 (68, .aload_n 0, 1) rfl) rfl (j := 0) rfl ?_
    refine cv_iload_n C (pc' := 70) rfl (D 21 (69, .iload_n 1, 1) rfl) rfl (j := 1) rfl ?_
    refine cv_iconst C (pc' := 71) rfl (D 22 (70, .iconst 0, 1) rfl) (v := nI 0) (by decide) ?_
    refine cv_iconst C (pc' := 72) rfl (D 23 (71, .iconst 2, 1) rfl) (v := nI 2) (by decide) ?_
    refine cv_callV C (pc' := 75) rfl (k0 := 26) (ci := 4) (As := [.int (nI p), .int (nI 0), .int (nI 2)]) (rest := []) (idx := 33) (np := 3) (kX4_isDigitAt tx fr n g p 0 2 σ htx hX (by omega)) (by decide) rfl rfl rfl (by decide +kernel) rfl wmX4_33 wi_yX4_isDigitAt ws_yX4_isDigitAt wn_X4 wc_yX4_isDigitAt (by decide) (by decide) (D 24 (72, .invokevirtual 33, 3) rfl) (Nat.le_of_ble_eq_true rfl) rfl (fun w9 u9 h9 => ?_)
    rw [h9.1, h9.2]
    show cv_At X _ _ σ 75 _ [.int (cv_b (cv_dg (g p) 0 2))]
    exact cv_iret C Rt (cv_b_nar _) (D 25 (75, .ireturn, 1) rfl) ⟨congrArg (fun z => some (Value.int z)) (by unfold cv_pg; rw [if_neg (by omega), if_neg (by omega), if_pos hq]), rfl⟩
  · skip
    refine cv_top (w := nI 3) (congrArg nI hq) ?_
    refine cv_tableIn C (D 1 (1, .tableswitch 114 0 4 #[35, 51, 67, 75, 106], 35) rfl) (tgt := 76) (by decide) (by decide) rfl (by decide) ?_
    refine cv_aload_n C (pc' := 77) rfl (D 26 (76, .aload_n 0, 1) rfl) rfl (j := 0) rfl ?_
    refine cv_iload_n C (pc' := 78) rfl (D 27 (77, .iload_n 1, 1) rfl) rfl (j := 1) rfl ?_
    refine cv_iconst C (pc' := 79) rfl (D 28 (78, .iconst 0, 1) rfl) (v := nI 0) (by decide) ?_
    refine cv_iconst C (pc' := 80) rfl (D 29 (79, .iconst 2, 1) rfl) (v := nI 2) (by decide) ?_
    refine cv_callV C (pc' := 83) rfl (k0 := 26) (ci := 4) (As := [.int (nI p), .int (nI 0), .int (nI 2)]) (rest := []) (idx := 33) (np := 3) (kX4_isDigitAt tx fr n g p 0 2 σ htx hX (by omega)) (by decide) rfl rfl rfl (by decide +kernel) rfl wmX4_33 wi_yX4_isDigitAt ws_yX4_isDigitAt wn_X4 wc_yX4_isDigitAt (by decide) (by decide) (D 30 (80, .invokevirtual 33, 3) rfl) (Nat.le_of_ble_eq_true rfl) rfl (fun w9 u9 h9 => ?_)
    rw [h9.1, h9.2]
    show cv_At X _ _ σ 83 _ [.int (cv_b (cv_dg (g p) 0 2))]
    refine cv_if_eqB C (pc' := 86) rfl (tgt := 105) (D 31 (83, .ifCond .eq 22, 3) rfl) (by decide) (fun b83 => ?_) (fun b83 => ?_)
    · skip
      refine cv_iconst C (pc' := 106) rfl (D 43 (105, .iconst 0, 1) rfl) (v := nI 0) (by decide) ?_
      exact cv_iret C Rt (by decide) (D 44 (106, .ireturn, 1) rfl) ⟨congrArg (fun z => some (Value.int z)) (by unfold cv_pg; rw [if_neg (by omega), if_neg (by omega), if_neg (by omega), if_pos hq]; rw [b83]; rfl), rfl⟩
    · skip
      refine cv_aload_n C (pc' := 87) rfl (D 32 (86, .aload_n 0, 1) rfl) rfl (j := 0) rfl ?_
      refine cv_iload_n C (pc' := 88) rfl (D 33 (87, .iload_n 1, 1) rfl) rfl (j := 1) rfl ?_
      refine cv_callV C (pc' := 91) rfl (k0 := 26) (ci := 4) (As := [.int (nI p)]) (rest := []) (idx := 22) (np := 1) (kX4_codeAt tx fr n g p σ htx hX (by omega)) (by decide) rfl rfl rfl (by decide +kernel) rfl wmX4_22 wi_yX4_codeAt ws_yX4_codeAt wn_X4 wc_yX4_codeAt (by decide) (by decide) (D 34 (88, .invokevirtual 22, 3) rfl) (Nat.le_of_ble_eq_true rfl) rfl (fun w9 u9 h9 => ?_)
      rw [h9.1, h9.2]
      show cv_At X _ _ σ 91 _ [.int (g p)]
      refine cv_aload_n C (pc' := 92) rfl (D 35 (91, .aload_n 0, 1) rfl) rfl (j := 0) rfl ?_
      refine cv_iload_n C (pc' := 93) rfl (D 36 (92, .iload_n 1, 1) rfl) rfl (j := 1) rfl ?_
      refine cv_iconst C (pc' := 94) rfl (D 37 (93, .iconst 1, 1) rfl) (v := nI 1) (by decide) ?_
      refine cv_isubN C (pc' := 95) rfl (by omega) (D 38 (94, .isub, 1) rfl) ?_
      refine cv_callV C (pc' := 98) rfl (k0 := 26) (ci := 4) (As := [.int (nI (p - 1))]) (rest := [.int (g p)]) (idx := 22) (np := 1) (kX4_codeAt tx fr n g (p - 1) σ htx hX (by omega)) (by decide) rfl rfl rfl (by decide +kernel) rfl wmX4_22 wi_yX4_codeAt ws_yX4_codeAt wn_X4 wc_yX4_codeAt (by decide) (by decide) (D 39 (95, .invokevirtual 22, 3) rfl) (Nat.le_of_ble_eq_true rfl) rfl (fun w9 u9 h9 => ?_)
      rw [h9.1, h9.2]
      show cv_At X _ _ σ 98 _ [.int (g (p - 1)), .int (g p)]
      refine cv_icmp_eq C (pc' := 101) rfl (tgt := 105) (D 40 (98, .if_icmp .eq 7, 3) rfl) (by decide) (fun b98 => ?_) (fun b98 => ?_)
      · skip
        refine cv_iconst C (pc' := 106) rfl (D 43 (105, .iconst 0, 1) rfl) (v := nI 0) (by decide) ?_
        exact cv_iret C Rt (by decide) (D 44 (106, .ireturn, 1) rfl) ⟨congrArg (fun z => some (Value.int z)) (by unfold cv_pg; rw [if_neg (by omega), if_neg (by omega), if_neg (by omega), if_pos hq]; rw [b83, decide_eq_false (fun h => h b98)]; rfl), rfl⟩
      · skip
        refine cv_iconst C (pc' := 102) rfl (D 41 (101, .iconst 1, 1) rfl) (v := nI 1) (by decide) ?_
        refine cv_goto C (tgt := 106) (D 42 (102, .goto 4, 3) rfl) (by decide) ?_
        exact cv_iret C Rt (by decide) (D 44 (106, .ireturn, 1) rfl) ⟨congrArg (fun z => some (Value.int z)) (by unfold cv_pg; rw [if_neg (by omega), if_neg (by omega), if_neg (by omega), if_pos hq]; rw [b83, decide_eq_true b98]; rfl), rfl⟩
  · skip
    refine cv_top (w := nI 4) (congrArg nI hq) ?_
    refine cv_tableIn C (D 1 (1, .tableswitch 114 0 4 #[35, 51, 67, 75, 106], 35) rfl) (tgt := 107) (by decide) (by decide) rfl (by decide) ?_
    refine cv_aload_n C (pc' := 108) rfl (D 45 (107, .aload_n 0, 1) rfl) rfl (j := 0) rfl ?_
    refine cv_iload_n C (pc' := 109) rfl (D 46 (108, .iload_n 1, 1) rfl) rfl (j := 1) rfl ?_
    refine cv_iconst C (pc' := 110) rfl (D 47 (109, .iconst 1, 1) rfl) (v := nI 1) (by decide) ?_
    refine cv_iconst C (pc' := 111) rfl (D 48 (110, .iconst 3, 1) rfl) (v := nI 3) (by decide) ?_
    refine cv_callV C (pc' := 114) rfl (k0 := 26) (ci := 4) (As := [.int (nI p), .int (nI 1), .int (nI 3)]) (rest := []) (idx := 33) (np := 3) (kX4_isDigitAt tx fr n g p 1 3 σ htx hX (by omega)) (by decide) rfl rfl rfl (by decide +kernel) rfl wmX4_33 wi_yX4_isDigitAt ws_yX4_isDigitAt wn_X4 wc_yX4_isDigitAt (by decide) (by decide) (D 49 (111, .invokevirtual 33, 3) rfl) (Nat.le_of_ble_eq_true rfl) rfl (fun w9 u9 h9 => ?_)
    rw [h9.1, h9.2]
    show cv_At X _ _ σ 114 _ [.int (cv_b (cv_dg (g p) 1 3))]
    exact cv_iret C Rt (cv_b_nar _) (D 50 (114, .ireturn, 1) rfl) ⟨congrArg (fun z => some (Value.int z)) (by unfold cv_pg; rw [if_neg (by omega), if_neg (by omega), if_neg (by omega), if_neg (by omega), if_pos hq]), rfl⟩
  · skip
    refine cv_tableOut C (D 1 (1, .tableswitch 114 0 4 #[35, 51, 67, 75, 106], 35) rfl) (tgt := 115) (Or.inr (by rw [nI_toInt (by omega)]; omega)) (by decide) ?_
    refine cv_aload_n C (pc' := 116) rfl (D 51 (115, .aload_n 0, 1) rfl) rfl (j := 0) rfl ?_
    refine cv_iload_n C (pc' := 117) rfl (D 52 (116, .iload_n 1, 1) rfl) rfl (j := 1) rfl ?_
    refine cv_iconst C (pc' := 118) rfl (D 53 (117, .iconst 0, 1) rfl) (v := nI 0) (by decide) ?_
    refine cv_bipush C (pc' := 120) rfl (D 54 (118, .bipush 9, 2) rfl) (v := nI 9) (by decide) ?_
    refine cv_callV C (pc' := 123) rfl (k0 := 26) (ci := 4) (As := [.int (nI p), .int (nI 0), .int (nI 9)]) (rest := []) (idx := 33) (np := 3) (kX4_isDigitAt tx fr n g p 0 9 σ htx hX (by omega)) (by decide) rfl rfl rfl (by decide +kernel) rfl wmX4_33 wi_yX4_isDigitAt ws_yX4_isDigitAt wn_X4 wc_yX4_isDigitAt (by decide) (by decide) (D 55 (120, .invokevirtual 33, 3) rfl) (Nat.le_of_ble_eq_true rfl) rfl (fun w9 u9 h9 => ?_)
    rw [h9.1, h9.2]
    show cv_At X _ _ σ 123 _ [.int (cv_b (cv_dg (g p) 0 9))]
    exact cv_iret C Rt (cv_b_nar _) (D 56 (123, .ireturn, 1) rfl) ⟨congrArg (fun z => some (Value.int z)) (by unfold cv_pg; rw [if_neg (by omega), if_neg (by omega), if_neg (by omega), if_neg (by omega), if_neg (by omega)]), rfl⟩

set_option maxHeartbeats 4000000 in
set_option maxRecDepth 100000 in
theorem kX4_goesOnAt (tx fr n : Nat) (g : Nat → Int32) (p : Nat) (σ : cv_St) (htx : 6 ≤ tx ∧ tx < 10) (hX : cv_TX tx fr n g σ) (hp : p < n) : cv_Ct yX4_goesOnAt cX4_goesOnAt 2 (some .boolean) 4 0 0 27 (cv_shT tx) [.ref 26, .int (nI p)] σ (cv_pu (.int (cv_b (cv_go g p))) σ) := by
  refine cv_enter (own := RX4) (by decide) rfl (Nat.le_of_ble_eq_true rfl) ?_
  intro X a C Rt hRm
  have D := @cv_dec _ _ dkX4_goesOnAt
  have hn60 := hX.2.2.1
  show cv_At X _ _ σ 0 [(0, .ref 26), (1, .int (nI p))] []
  refine cv_iload_n C (pc' := 1) rfl (D 0 (0, .iload_n 1, 1) rfl) rfl (j := 1) rfl ?_
  refine cv_if_neN C (pc' := 4) rfl (by omega) (tgt := 20) (D 1 (1, .ifCond .ne 19, 3) rfl) (by decide) (fun b1 => ?_) (fun b1 => ?_)
  · skip
    refine cv_iload_n C (pc' := 21) rfl (D 11 (20, .iload_n 1, 1) rfl) rfl (j := 1) rfl ?_
    refine cv_bipush C (pc' := 23) rfl (D 12 (21, .bipush 9, 2) rfl) (v := nI 9) (by decide) ?_
    refine cv_icmp_geN C (pc' := 26) rfl (by omega) (by omega) (tgt := 35) (D 13 (23, .if_icmp .ge 12, 3) rfl) (by decide) (fun b23 => ?_) (fun b23 => ?_)
    · skip
      refine cv_iload_n C (pc' := 36) rfl (D 20 (35, .iload_n 1, 1) rfl) rfl (j := 1) rfl ?_
      refine cv_bipush C (pc' := 38) rfl (D 21 (36, .bipush 21, 2) rfl) (v := nI 21) (by decide) ?_
      refine cv_icmp_geN C (pc' := 41) rfl (by omega) (by omega) (tgt := 53) (D 22 (38, .if_icmp .ge 15, 3) rfl) (by decide) (fun b38 => ?_) (fun b38 => ?_)
      · skip
        refine cv_iload_n C (pc' := 54) rfl (D 32 (53, .iload_n 1, 1) rfl) rfl (j := 1) rfl ?_
        refine cv_bipush C (pc' := 56) rfl (D 33 (54, .bipush 57, 2) rfl) (v := nI 57) (by decide) ?_
        refine cv_icmp_geN C (pc' := 59) rfl (by omega) (by omega) (tgt := 78) (D 34 (56, .if_icmp .ge 22, 3) rfl) (by decide) (fun b56 => ?_) (fun b56 => ?_)
        · skip
          refine cv_iconst C (pc' := 79) rfl (D 46 (78, .iconst 0, 1) rfl) (v := nI 0) (by decide) ?_
          exact cv_iret C Rt (by decide) (D 47 (79, .ireturn, 1) rfl) ⟨congrArg (fun z => some (Value.int z)) (by unfold cv_go; rw [if_neg (by omega), if_neg (by omega), if_neg (by omega), decide_eq_false (by omega)]; rfl), rfl⟩
        · skip
          refine cv_aload_n C (pc' := 60) rfl (D 35 (59, .aload_n 0, 1) rfl) rfl (j := 0) rfl ?_
          refine cv_iload_n C (pc' := 61) rfl (D 36 (60, .iload_n 1, 1) rfl) rfl (j := 1) rfl ?_
          refine cv_iload_n C (pc' := 62) rfl (D 37 (61, .iload_n 1, 1) rfl) rfl (j := 1) rfl ?_
          refine cv_bipush C (pc' := 64) rfl (D 38 (62, .bipush 21, 2) rfl) (v := nI 21) (by decide) ?_
          refine cv_isubN C (pc' := 65) rfl (by omega) (D 39 (64, .isub, 1) rfl) ?_
          refine cv_bipush C (pc' := 67) rfl (D 40 (65, .bipush 6, 2) rfl) (v := nI 6) (by decide) ?_
          refine cv_iremN C (pc' := 68) rfl (by omega) (by decide) (by decide) (D 41 (67, .irem, 1) rfl) ?_
          refine cv_callV C (pc' := 71) rfl (k0 := 26) (ci := 4) (As := [.int (nI p), .int (nI ((p - 21) % 6))]) (rest := []) (idx := 41) (np := 2) (kX4_passGoesOnAt tx fr n g p ((p - 21) % 6) σ htx hX hp (by omega) (by omega)) (by decide) rfl rfl rfl (by decide +kernel) rfl wmX4_41 wi_yX4_passGoesOnAt ws_yX4_passGoesOnAt wn_X4 wc_yX4_passGoesOnAt (by decide) (by decide) (D 42 (68, .invokevirtual 41, 3) rfl) (Nat.le_of_ble_eq_true rfl) rfl (fun w9 u9 h9 => ?_)
          rw [h9.1, h9.2]
          show cv_At X _ _ σ 71 _ [.int (cv_b (cv_pg g p ((p - 21) % 6)))]
          refine cv_if_eqB C (pc' := 74) rfl (tgt := 78) (D 43 (71, .ifCond .eq 7, 3) rfl) (by decide) (fun b71 => ?_) (fun b71 => ?_)
          · skip
            refine cv_iconst C (pc' := 79) rfl (D 46 (78, .iconst 0, 1) rfl) (v := nI 0) (by decide) ?_
            exact cv_iret C Rt (by decide) (D 47 (79, .ireturn, 1) rfl) ⟨congrArg (fun z => some (Value.int z)) (by unfold cv_go; rw [if_neg (by omega), if_neg (by omega), if_neg (by omega), decide_eq_true b56, b71]; rfl), rfl⟩
          · skip
            refine cv_iconst C (pc' := 75) rfl (D 44 (74, .iconst 1, 1) rfl) (v := nI 1) (by decide) ?_
            refine cv_goto C (tgt := 79) (D 45 (75, .goto 4, 3) rfl) (by decide) ?_
            exact cv_iret C Rt (by decide) (D 47 (79, .ireturn, 1) rfl) ⟨congrArg (fun z => some (Value.int z)) (by unfold cv_go; rw [if_neg (by omega), if_neg (by omega), if_neg (by omega), decide_eq_true b56, b71]; rfl), rfl⟩
      · skip
        refine cv_aload_n C (pc' := 42) rfl (D 23 (41, .aload_n 0, 1) rfl) rfl (j := 0) rfl ?_
        refine cv_iload_n C (pc' := 43) rfl (D 24 (42, .iload_n 1, 1) rfl) rfl (j := 1) rfl ?_
        refine cv_iload_n C (pc' := 44) rfl (D 25 (43, .iload_n 1, 1) rfl) rfl (j := 1) rfl ?_
        refine cv_bipush C (pc' := 46) rfl (D 26 (44, .bipush 9, 2) rfl) (v := nI 9) (by decide) ?_
        refine cv_isubN C (pc' := 47) rfl (by omega) (D 27 (46, .isub, 1) rfl) ?_
        refine cv_iconst C (pc' := 48) rfl (D 28 (47, .iconst 4, 1) rfl) (v := nI 4) (by decide) ?_
        refine cv_iremN C (pc' := 49) rfl (by omega) (by decide) (by decide) (D 29 (48, .irem, 1) rfl) ?_
        refine cv_callV C (pc' := 52) rfl (k0 := 26) (ci := 4) (As := [.int (nI p), .int (nI ((p - 9) % 4))]) (rest := []) (idx := 37) (np := 2) (kX4_givesGoOnAt tx fr n g p ((p - 9) % 4) σ htx hX hp (by omega) (by omega)) (by decide) rfl rfl rfl (by decide +kernel) rfl wmX4_37 wi_yX4_givesGoOnAt ws_yX4_givesGoOnAt wn_X4 wc_yX4_givesGoOnAt (by decide) (by decide) (D 30 (49, .invokevirtual 37, 3) rfl) (Nat.le_of_ble_eq_true rfl) rfl (fun w9 u9 h9 => ?_)
        rw [h9.1, h9.2]
        show cv_At X _ _ σ 52 _ [.int (cv_b (cv_gg g p ((p - 9) % 4)))]
        exact cv_iret C Rt (cv_b_nar _) (D 31 (52, .ireturn, 1) rfl) ⟨congrArg (fun z => some (Value.int z)) (by unfold cv_go; rw [if_neg (by omega), if_neg (by omega), if_pos b38]), rfl⟩
    · skip
      refine cv_aload_n C (pc' := 27) rfl (D 14 (26, .aload_n 0, 1) rfl) rfl (j := 0) rfl ?_
      refine cv_iload_n C (pc' := 28) rfl (D 15 (27, .iload_n 1, 1) rfl) rfl (j := 1) rfl ?_
      refine cv_iconst C (pc' := 29) rfl (D 16 (28, .iconst 0, 1) rfl) (v := nI 0) (by decide) ?_
      refine cv_bipush C (pc' := 31) rfl (D 17 (29, .bipush 9, 2) rfl) (v := nI 9) (by decide) ?_
      refine cv_callV C (pc' := 34) rfl (k0 := 26) (ci := 4) (As := [.int (nI p), .int (nI 0), .int (nI 9)]) (rest := []) (idx := 33) (np := 3) (kX4_isDigitAt tx fr n g p 0 9 σ htx hX (by omega)) (by decide) rfl rfl rfl (by decide +kernel) rfl wmX4_33 wi_yX4_isDigitAt ws_yX4_isDigitAt wn_X4 wc_yX4_isDigitAt (by decide) (by decide) (D 18 (31, .invokevirtual 33, 3) rfl) (Nat.le_of_ble_eq_true rfl) rfl (fun w9 u9 h9 => ?_)
      rw [h9.1, h9.2]
      show cv_At X _ _ σ 34 _ [.int (cv_b (cv_dg (g p) 0 9))]
      exact cv_iret C Rt (cv_b_nar _) (D 19 (34, .ireturn, 1) rfl) ⟨congrArg (fun z => some (Value.int z)) (by unfold cv_go; rw [if_neg (by omega), if_pos b23]), rfl⟩
  · skip
    refine cv_aload_n C (pc' := 5) rfl (D 2 (4, .aload_n 0, 1) rfl) rfl (j := 0) rfl ?_
    refine cv_iload_n C (pc' := 6) rfl (D 3 (5, .iload_n 1, 1) rfl) rfl (j := 1) rfl ?_
    refine cv_callV C (pc' := 9) rfl (k0 := 26) (ci := 4) (As := [.int (nI p)]) (rest := []) (idx := 22) (np := 1) (kX4_codeAt tx fr n g p σ htx hX (by omega)) (by decide) rfl rfl rfl (by decide +kernel) rfl wmX4_22 wi_yX4_codeAt ws_yX4_codeAt wn_X4 wc_yX4_codeAt (by decide) (by decide) (D 4 (6, .invokevirtual 22, 3) rfl) (Nat.le_of_ble_eq_true rfl) rfl (fun w9 u9 h9 => ?_)
    rw [h9.1, h9.2]
    show cv_At X _ _ σ 9 _ [.int (g p)]
    refine cv_bipush C (pc' := 11) rfl (D 5 (9, .bipush 118, 2) rfl) (v := nI 118) (by decide) ?_
    refine cv_icmp_ne C (pc' := 14) rfl (tgt := 18) (D 6 (11, .if_icmp .ne 7, 3) rfl) (by decide) (fun b11 => ?_) (fun b11 => ?_)
    · skip
      refine cv_iconst C (pc' := 19) rfl (D 9 (18, .iconst 0, 1) rfl) (v := nI 0) (by decide) ?_
      exact cv_iret C Rt (by decide) (D 10 (19, .ireturn, 1) rfl) ⟨congrArg (fun z => some (Value.int z)) (by unfold cv_go; rw [if_pos b1]; rw [decide_eq_false b11]; rfl), rfl⟩
    · skip
      refine cv_iconst C (pc' := 15) rfl (D 7 (14, .iconst 1, 1) rfl) (v := nI 1) (by decide) ?_
      refine cv_goto C (tgt := 19) (D 8 (15, .goto 4, 3) rfl) (by decide) ?_
      exact cv_iret C Rt (by decide) (D 10 (19, .ireturn, 1) rfl) ⟨congrArg (fun z => some (Value.int z)) (by unfold cv_go; rw [if_pos b1]; rw [decide_eq_true b11]; rfl), rfl⟩

set_option maxHeartbeats 4000000 in
set_option maxRecDepth 100000 in
theorem kX4_firstFault (tx fr n : Nat) (g : Nat → Int32)  (σ : cv_St) (htx : 6 ≤ tx ∧ tx < 10) (hX : cv_TX tx fr n g σ)  : cv_Ct yX4_firstFault cX4_firstFault 2 (some .int) 5 0 0 27 (cv_shT tx) [.ref 26] σ (cv_pu (.int (cv_o (cv_ff g n))) σ) := by
  refine cv_enter (own := RX4) (by decide) rfl (Nat.le_of_ble_eq_true rfl) ?_
  intro X a C Rt hRm
  have D := @cv_dec _ _ dkX4_firstFault
  have hn60 := hX.2.2.1
  show cv_At X _ _ σ 0 [(0, .ref 26)] []
  refine cv_iconst C (pc' := 1) rfl (D 0 (0, .iconst 0, 1) rfl) (v := nI 0) (by decide) ?_
  refine cv_istore_n C (pc' := 2) rfl (D 1 (1, .istore_n 1, 1) rfl) rfl (by decide) (lv' := [(1, .int (nI 0)), (0, .ref 26)]) rfl ?_
  have LP2 : ∀ (r : Nat) (p : Nat), (p + r = n) → (∀ i, i < p → cv_go g i = true) → cv_At X (27, (cv_shT tx), 0, 0, a) 2 σ 2 [(1, .int (nI p)), (0, .ref 26)] [] := by
    intro r
    induction r with
    | zero =>
      intro p hr h0
      refine cv_iload_n C (pc' := 3) rfl (D 2 (2, .iload_n 1, 1) rfl) rfl (j := 0) rfl ?_
      refine cv_aload_n C (pc' := 4) rfl (D 3 (3, .aload_n 0, 1) rfl) rfl (j := 1) rfl ?_
      refine cv_get C (pc' := 7) rfl (k0 := 26) (i := 2) (ci := 4) (by decide) rfl rfl (by decide) (o := none) rfl iw_X4 wfX4_19 (D 4 (4, .getfield 19, 3) rfl) (v := .int (nI n)) (congrArg Value.int hX.2.1) ?_
      refine cv_icmp_geN C (pc' := 10) rfl (by omega) (by omega) (tgt := 26) (D 5 (7, .if_icmp .ge 19, 3) rfl) (by decide) (fun b7 => ?_) (fun b7 => ?_)
      · skip
        refine cv_aload_n C (pc' := 27) rfl (D 14 (26, .aload_n 0, 1) rfl) rfl (j := 1) rfl ?_
        refine cv_get C (pc' := 30) rfl (k0 := 26) (i := 2) (ci := 4) (by decide) rfl rfl (by decide) (o := none) rfl iw_X4 wfX4_19 (D 15 (27, .getfield 19, 3) rfl) (v := .int (nI n)) (congrArg Value.int hX.2.1) ?_
        refine cv_bipush C (pc' := 32) rfl (D 16 (30, .bipush 21, 2) rfl) (v := nI 21) (by decide) ?_
        refine cv_icmp_leN C (pc' := 35) rfl (by omega) (by omega) (tgt := 52) (D 17 (32, .if_icmp .le 20, 3) rfl) (by decide) (fun b32 => ?_) (fun b32 => ?_)
        · skip
          refine cv_iconst C (pc' := 53) rfl (D 27 (52, .iconst 0, 1) rfl) (v := nI 0) (by decide) ?_
          refine cv_istore_n C (pc' := 54) rfl (D 28 (53, .istore_n 1, 1) rfl) rfl (by decide) (lv' := [(1, .int (nI 0)), (0, .ref 26)]) rfl ?_
          refine cv_iload_n C (pc' := 55) rfl (D 29 (54, .iload_n 1, 1) rfl) rfl (j := 0) rfl ?_
          refine cv_if_eq C (pc' := 58) rfl (tgt := 63) (D 30 (55, .ifCond .eq 8, 3) rfl) (by decide) (fun _ => ?_) (fun h => absurd h (by decide))
          refine cv_aload_n C (pc' := 64) rfl (D 33 (63, .aload_n 0, 1) rfl) rfl (j := 1) rfl ?_
          refine cv_get C (pc' := 67) rfl (k0 := 26) (i := 2) (ci := 4) (by decide) rfl rfl (by decide) (o := none) rfl iw_X4 wfX4_19 (D 34 (64, .getfield 19, 3) rfl) (v := .int (nI n)) (congrArg Value.int hX.2.1) ?_
          exact cv_iret C Rt rfl (D 35 (67, .ireturn, 1) rfl) ⟨congrArg (fun z => some (Value.int z)) (by rw [cv_ff_all (fun i hi => h0 i (by omega))]; rw [if_neg (by omega)]; rfl), rfl⟩
        · skip
          refine cv_aload_n C (pc' := 36) rfl (D 18 (35, .aload_n 0, 1) rfl) rfl (j := 1) rfl ?_
          refine cv_get C (pc' := 39) rfl (k0 := 26) (i := 2) (ci := 4) (by decide) rfl rfl (by decide) (o := none) rfl iw_X4 wfX4_19 (D 19 (36, .getfield 19, 3) rfl) (v := .int (nI n)) (congrArg Value.int hX.2.1) ?_
          refine cv_bipush C (pc' := 41) rfl (D 20 (39, .bipush 21, 2) rfl) (v := nI 21) (by decide) ?_
          refine cv_isubN C (pc' := 42) rfl (by omega) (D 21 (41, .isub, 1) rfl) ?_
          refine cv_bipush C (pc' := 44) rfl (D 22 (42, .bipush 6, 2) rfl) (v := nI 6) (by decide) ?_
          refine cv_iremN C (pc' := 45) rfl (by omega) (by decide) (by decide) (D 23 (44, .irem, 1) rfl) ?_
          refine cv_if_neN C (pc' := 48) rfl (by omega) (tgt := 52) (D 24 (45, .ifCond .ne 7, 3) rfl) (by decide) (fun b45 => ?_) (fun b45 => ?_)
          · skip
            refine cv_iconst C (pc' := 53) rfl (D 27 (52, .iconst 0, 1) rfl) (v := nI 0) (by decide) ?_
            refine cv_istore_n C (pc' := 54) rfl (D 28 (53, .istore_n 1, 1) rfl) rfl (by decide) (lv' := [(1, .int (nI 0)), (0, .ref 26)]) rfl ?_
            refine cv_iload_n C (pc' := 55) rfl (D 29 (54, .iload_n 1, 1) rfl) rfl (j := 0) rfl ?_
            refine cv_if_eq C (pc' := 58) rfl (tgt := 63) (D 30 (55, .ifCond .eq 8, 3) rfl) (by decide) (fun _ => ?_) (fun h => absurd h (by decide))
            refine cv_aload_n C (pc' := 64) rfl (D 33 (63, .aload_n 0, 1) rfl) rfl (j := 1) rfl ?_
            refine cv_get C (pc' := 67) rfl (k0 := 26) (i := 2) (ci := 4) (by decide) rfl rfl (by decide) (o := none) rfl iw_X4 wfX4_19 (D 34 (64, .getfield 19, 3) rfl) (v := .int (nI n)) (congrArg Value.int hX.2.1) ?_
            exact cv_iret C Rt rfl (D 35 (67, .ireturn, 1) rfl) ⟨congrArg (fun z => some (Value.int z)) (by rw [cv_ff_all (fun i hi => h0 i (by omega))]; rw [if_neg (by omega)]; rfl), rfl⟩
          · skip
            refine cv_iconst C (pc' := 49) rfl (D 25 (48, .iconst 1, 1) rfl) (v := nI 1) (by decide) ?_
            refine cv_goto C (tgt := 53) (D 26 (49, .goto 4, 3) rfl) (by decide) ?_
            refine cv_istore_n C (pc' := 54) rfl (D 28 (53, .istore_n 1, 1) rfl) rfl (by decide) (lv' := [(1, .int (nI 1)), (0, .ref 26)]) rfl ?_
            refine cv_iload_n C (pc' := 55) rfl (D 29 (54, .iload_n 1, 1) rfl) rfl (j := 0) rfl ?_
            refine cv_if_eq C (pc' := 58) rfl (tgt := 63) (D 30 (55, .ifCond .eq 8, 3) rfl) (by decide) (fun h => absurd h (by decide)) (fun _ => ?_)
            refine cv_bipush C (pc' := 60) rfl (D 31 (58, .bipush (-9), 2) rfl) (v := -9) (by decide) ?_
            refine cv_goto C (tgt := 67) (D 32 (60, .goto 7, 3) rfl) (by decide) ?_
            exact cv_iret C Rt rfl (D 35 (67, .ireturn, 1) rfl) ⟨congrArg (fun z => some (Value.int z)) (by rw [cv_ff_all (fun i hi => h0 i (by omega))]; rw [if_pos ⟨by omega, b45⟩]; rfl), rfl⟩
      · skip
        omega
    | succ r ih2 =>
      intro p hr h0
      refine cv_iload_n C (pc' := 3) rfl (D 2 (2, .iload_n 1, 1) rfl) rfl (j := 0) rfl ?_
      refine cv_aload_n C (pc' := 4) rfl (D 3 (3, .aload_n 0, 1) rfl) rfl (j := 1) rfl ?_
      refine cv_get C (pc' := 7) rfl (k0 := 26) (i := 2) (ci := 4) (by decide) rfl rfl (by decide) (o := none) rfl iw_X4 wfX4_19 (D 4 (4, .getfield 19, 3) rfl) (v := .int (nI n)) (congrArg Value.int hX.2.1) ?_
      refine cv_icmp_geN C (pc' := 10) rfl (by omega) (by omega) (tgt := 26) (D 5 (7, .if_icmp .ge 19, 3) rfl) (by decide) (fun b7 => ?_) (fun b7 => ?_)
      · skip
        omega
      · skip
        refine cv_aload_n C (pc' := 11) rfl (D 6 (10, .aload_n 0, 1) rfl) rfl (j := 1) rfl ?_
        refine cv_iload_n C (pc' := 12) rfl (D 7 (11, .iload_n 1, 1) rfl) rfl (j := 0) rfl ?_
        refine cv_callV C (pc' := 15) rfl (k0 := 26) (ci := 4) (As := [.int (nI p)]) (rest := []) (idx := 29) (np := 1) (kX4_goesOnAt tx fr n g p σ htx hX (by omega)) (by decide) rfl rfl rfl (by decide +kernel) rfl wmX4_29 wi_yX4_goesOnAt ws_yX4_goesOnAt wn_X4 wc_yX4_goesOnAt (by decide) (by decide) (D 8 (12, .invokevirtual 29, 3) rfl) (Nat.le_of_ble_eq_true rfl) rfl (fun w9 u9 h9 => ?_)
        rw [h9.1, h9.2]
        show cv_At X _ _ σ 15 _ [.int (cv_b (cv_go g p))]
        refine cv_if_neB C (pc' := 18) rfl (tgt := 20) (D 9 (15, .ifCond .ne 5, 3) rfl) (by decide) (fun b15 => ?_) (fun b15 => ?_)
        · skip
          refine cv_iincN C (pc' := 23) rfl (D 12 (20, .iinc 1 1, 3) rfl) (j := 0) rfl (by decide) (lv' := [(1, .int (nI (p + 1))), (0, .ref 26)]) rfl ?_
          refine cv_goto C (tgt := 2) (D 13 (23, .goto (-21), 3) rfl) (by decide) ?_
          exact ih2 (p + 1) (by omega) (cv_ex h0 b15)
        · skip
          refine cv_iload_n C (pc' := 19) rfl (D 10 (18, .iload_n 1, 1) rfl) rfl (j := 0) rfl ?_
          exact cv_iret C Rt rfl (D 11 (19, .ireturn, 1) rfl) ⟨congrArg (fun z => some (Value.int z)) (by rw [cv_ff_some (by omega) b15 h0]; rfl), rfl⟩
  exact LP2 n 0 (by omega) (fun i h => by omega)

set_option maxHeartbeats 4000000 in
set_option maxRecDepth 100000 in
theorem kX0_settlePass (tx fr n : Nat) (g : Nat → Int32) (p s : Nat) (D0 : Nat → Nat) (σ : cv_St) (htx : 6 ≤ tx ∧ tx < 10) (hX : cv_TX tx fr n g σ) (hp6 : p < 6) (hs : s + 5 < n) (hk : cv_kd (g (s + 1)) = some (D0 0)) (he : ∀ i, 1 ≤ i → i < 5 → g (s + 1 + i) - nI 48 = nI (D0 i)) : cv_Ct yX0_settlePass cX0_settlePass 3 none 2 0 0 27 (cv_shT tx) [.ref (12 + p), .ref 26, .int (nI s)] σ (fun v u => v = none ∧ (∀ j, j ≠ 12 + p → u j = σ j) ∧ ∀ i, i < 5 → u (12 + p) i = nI (D0 i)) := by
  refine cv_enter (own := RX0) (by decide) rfl (Nat.le_of_ble_eq_true rfl) ?_
  intro X a C Rt hRm
  have D := @cv_dec _ _ dkX0_settlePass
  have hn60 := hX.2.2.1
  show cv_At X _ _ σ 0 [(0, .ref (12 + p)), (1, .ref 26), (2, .int (nI s))] []
  refine cv_aload_n C (pc' := 1) rfl (D 0 (0, .aload_n 0, 1) rfl) rfl (j := 0) rfl ?_
  refine cv_aload_n C (pc' := 2) rfl (D 1 (1, .aload_n 1, 1) rfl) rfl (j := 1) rfl ?_
  refine cv_iload_n C (pc' := 3) rfl (D 2 (2, .iload_n 2, 1) rfl) rfl (j := 2) rfl ?_
  refine cv_iconst C (pc' := 4) rfl (D 3 (3, .iconst 1, 1) rfl) (v := nI 1) (by decide) ?_
  refine cv_iaddN C (pc' := 5) rfl (D 4 (4, .iadd, 1) rfl) ?_
  refine cv_callV C (pc' := 8) rfl (k0 := 26) (ci := 4) (As := [.int (nI (s + 1))]) (rest := [.ref (12 + p)]) (idx := 61) (np := 1) (kX4_kindAt tx fr n g (s + 1) σ htx hX (by omega)) (by decide) rfl rfl rfl (by decide +kernel) rfl wmX0_61 wi_yX4_kindAt ws_yX4_kindAt wn_X4 wc_yX4_kindAt (by decide) (by decide) (D 5 (5, .invokevirtual 61, 3) rfl) (Nat.le_of_ble_eq_true rfl) rfl (fun w9 u9 h9 => ?_)
  rw [h9.1, h9.2]
  show cv_At X _ _ σ 8 _ [.int (cv_o (cv_kd (g (s + 1)))), .ref (12 + p)]
  refine cv_top (w := nI (D0 0)) (by rw [hk]; rfl) ?_
  refine cv_put C (pc' := 11) rfl (k0 := 12 + p) (i := 0) (ci := 1) (cv_ltT_p hp6) (cv_shT_p hp6) rfl (by decide) rfl iw_X1 tyX1 tyX1_ok nmX1 wfX0_64 rfl rfl rfl (D 6 (8, .putfield 64, 3) rfl) ?_
  refine cv_aload_n C (pc' := 12) rfl (D 7 (11, .aload_n 0, 1) rfl) rfl (j := 0) rfl ?_
  refine cv_aload_n C (pc' := 13) rfl (D 8 (12, .aload_n 1, 1) rfl) rfl (j := 1) rfl ?_
  refine cv_iload_n C (pc' := 14) rfl (D 9 (13, .iload_n 2, 1) rfl) rfl (j := 2) rfl ?_
  refine cv_iconst C (pc' := 15) rfl (D 10 (14, .iconst 2, 1) rfl) (v := nI 2) (by decide) ?_
  refine cv_iaddN C (pc' := 16) rfl (D 11 (15, .iadd, 1) rfl) ?_
  refine cv_callV C (pc' := 19) rfl (k0 := 26) (ci := 4) (As := [.int (nI (s + 2))]) (rest := [.ref (12 + p)]) (idx := 31) (np := 1) (kX4_digitAt tx fr n g (s + 2) (cv_u σ (12 + p) 0 (nI (D0 0))) htx (cv_TX_k hX (by rw [cv_u_c (by omega)]) (by rw [cv_u_c (by omega)])) (by omega)) (by decide) rfl rfl rfl (by decide +kernel) rfl wmX0_31 wi_yX4_digitAt ws_yX4_digitAt wn_X4 wc_yX4_digitAt (by decide) (by decide) (D 12 (16, .invokevirtual 31, 3) rfl) (Nat.le_of_ble_eq_true rfl) rfl (fun w9 u9 h9 => ?_)
  rw [h9.1, h9.2]
  show cv_At X _ _ (cv_u σ (12 + p) 0 (nI (D0 0))) 19 _ [.int (g (s + 2) - nI 48), .ref (12 + p)]
  refine cv_top (w := nI (D0 1)) (he 1 (by decide) (by decide)) ?_
  refine cv_put C (pc' := 22) rfl (k0 := 12 + p) (i := 1) (ci := 1) (cv_ltT_p hp6) (cv_shT_p hp6) rfl (by decide) rfl iw_X1 tyX1 tyX1_ok nmX1 wfX0_67 rfl rfl rfl (D 13 (19, .putfield 67, 3) rfl) ?_
  refine cv_aload_n C (pc' := 23) rfl (D 14 (22, .aload_n 0, 1) rfl) rfl (j := 0) rfl ?_
  refine cv_aload_n C (pc' := 24) rfl (D 15 (23, .aload_n 1, 1) rfl) rfl (j := 1) rfl ?_
  refine cv_iload_n C (pc' := 25) rfl (D 16 (24, .iload_n 2, 1) rfl) rfl (j := 2) rfl ?_
  refine cv_iconst C (pc' := 26) rfl (D 17 (25, .iconst 3, 1) rfl) (v := nI 3) (by decide) ?_
  refine cv_iaddN C (pc' := 27) rfl (D 18 (26, .iadd, 1) rfl) ?_
  refine cv_callV C (pc' := 30) rfl (k0 := 26) (ci := 4) (As := [.int (nI (s + 3))]) (rest := [.ref (12 + p)]) (idx := 31) (np := 1) (kX4_digitAt tx fr n g (s + 3) (cv_u (cv_u σ (12 + p) 0 (nI (D0 0))) (12 + p) 1 (nI (D0 1))) htx (cv_TX_k hX (by rw [cv_u_c (by omega), cv_u_c (by omega)]) (by rw [cv_u_c (by omega), cv_u_c (by omega)])) (by omega)) (by decide) rfl rfl rfl (by decide +kernel) rfl wmX0_31 wi_yX4_digitAt ws_yX4_digitAt wn_X4 wc_yX4_digitAt (by decide) (by decide) (D 19 (27, .invokevirtual 31, 3) rfl) (Nat.le_of_ble_eq_true rfl) rfl (fun w9 u9 h9 => ?_)
  rw [h9.1, h9.2]
  show cv_At X _ _ (cv_u (cv_u σ (12 + p) 0 (nI (D0 0))) (12 + p) 1 (nI (D0 1))) 30 _ [.int (g (s + 3) - nI 48), .ref (12 + p)]
  refine cv_top (w := nI (D0 2)) (he 2 (by decide) (by decide)) ?_
  refine cv_put C (pc' := 33) rfl (k0 := 12 + p) (i := 2) (ci := 1) (cv_ltT_p hp6) (cv_shT_p hp6) rfl (by decide) rfl iw_X1 tyX1 tyX1_ok nmX1 wfX0_70 rfl rfl rfl (D 20 (30, .putfield 70, 3) rfl) ?_
  refine cv_aload_n C (pc' := 34) rfl (D 21 (33, .aload_n 0, 1) rfl) rfl (j := 0) rfl ?_
  refine cv_aload_n C (pc' := 35) rfl (D 22 (34, .aload_n 1, 1) rfl) rfl (j := 1) rfl ?_
  refine cv_iload_n C (pc' := 36) rfl (D 23 (35, .iload_n 2, 1) rfl) rfl (j := 2) rfl ?_
  refine cv_iconst C (pc' := 37) rfl (D 24 (36, .iconst 4, 1) rfl) (v := nI 4) (by decide) ?_
  refine cv_iaddN C (pc' := 38) rfl (D 25 (37, .iadd, 1) rfl) ?_
  refine cv_callV C (pc' := 41) rfl (k0 := 26) (ci := 4) (As := [.int (nI (s + 4))]) (rest := [.ref (12 + p)]) (idx := 31) (np := 1) (kX4_digitAt tx fr n g (s + 4) (cv_u (cv_u (cv_u σ (12 + p) 0 (nI (D0 0))) (12 + p) 1 (nI (D0 1))) (12 + p) 2 (nI (D0 2))) htx (cv_TX_k hX (by rw [cv_u_c (by omega), cv_u_c (by omega), cv_u_c (by omega)]) (by rw [cv_u_c (by omega), cv_u_c (by omega), cv_u_c (by omega)])) (by omega)) (by decide) rfl rfl rfl (by decide +kernel) rfl wmX0_31 wi_yX4_digitAt ws_yX4_digitAt wn_X4 wc_yX4_digitAt (by decide) (by decide) (D 26 (38, .invokevirtual 31, 3) rfl) (Nat.le_of_ble_eq_true rfl) rfl (fun w9 u9 h9 => ?_)
  rw [h9.1, h9.2]
  show cv_At X _ _ (cv_u (cv_u (cv_u σ (12 + p) 0 (nI (D0 0))) (12 + p) 1 (nI (D0 1))) (12 + p) 2 (nI (D0 2))) 41 _ [.int (g (s + 4) - nI 48), .ref (12 + p)]
  refine cv_top (w := nI (D0 3)) (he 3 (by decide) (by decide)) ?_
  refine cv_put C (pc' := 44) rfl (k0 := 12 + p) (i := 3) (ci := 1) (cv_ltT_p hp6) (cv_shT_p hp6) rfl (by decide) rfl iw_X1 tyX1 tyX1_ok nmX1 wfX0_73 rfl rfl rfl (D 27 (41, .putfield 73, 3) rfl) ?_
  refine cv_aload_n C (pc' := 45) rfl (D 28 (44, .aload_n 0, 1) rfl) rfl (j := 0) rfl ?_
  refine cv_aload_n C (pc' := 46) rfl (D 29 (45, .aload_n 1, 1) rfl) rfl (j := 1) rfl ?_
  refine cv_iload_n C (pc' := 47) rfl (D 30 (46, .iload_n 2, 1) rfl) rfl (j := 2) rfl ?_
  refine cv_iconst C (pc' := 48) rfl (D 31 (47, .iconst 5, 1) rfl) (v := nI 5) (by decide) ?_
  refine cv_iaddN C (pc' := 49) rfl (D 32 (48, .iadd, 1) rfl) ?_
  refine cv_callV C (pc' := 52) rfl (k0 := 26) (ci := 4) (As := [.int (nI (s + 5))]) (rest := [.ref (12 + p)]) (idx := 31) (np := 1) (kX4_digitAt tx fr n g (s + 5) (cv_u (cv_u (cv_u (cv_u σ (12 + p) 0 (nI (D0 0))) (12 + p) 1 (nI (D0 1))) (12 + p) 2 (nI (D0 2))) (12 + p) 3 (nI (D0 3))) htx (cv_TX_k hX (by rw [cv_u_c (by omega), cv_u_c (by omega), cv_u_c (by omega), cv_u_c (by omega)]) (by rw [cv_u_c (by omega), cv_u_c (by omega), cv_u_c (by omega), cv_u_c (by omega)])) (by omega)) (by decide) rfl rfl rfl (by decide +kernel) rfl wmX0_31 wi_yX4_digitAt ws_yX4_digitAt wn_X4 wc_yX4_digitAt (by decide) (by decide) (D 33 (49, .invokevirtual 31, 3) rfl) (Nat.le_of_ble_eq_true rfl) rfl (fun w9 u9 h9 => ?_)
  rw [h9.1, h9.2]
  show cv_At X _ _ (cv_u (cv_u (cv_u (cv_u σ (12 + p) 0 (nI (D0 0))) (12 + p) 1 (nI (D0 1))) (12 + p) 2 (nI (D0 2))) (12 + p) 3 (nI (D0 3))) 52 _ [.int (g (s + 5) - nI 48), .ref (12 + p)]
  refine cv_top (w := nI (D0 4)) (he 4 (by decide) (by decide)) ?_
  refine cv_put C (pc' := 55) rfl (k0 := 12 + p) (i := 4) (ci := 1) (cv_ltT_p hp6) (cv_shT_p hp6) rfl (by decide) rfl iw_X1 tyX1 tyX1_ok nmX1 wfX0_74 rfl rfl rfl (D 34 (52, .putfield 74, 3) rfl) ?_
  exact cv_vret C Rt (D 35 (55, .return_, 1) rfl) ⟨rfl, fun j hj => by rw [cv_u_c hj, cv_u_c hj, cv_u_c hj, cv_u_c hj, cv_u_c hj], fun i hi => by match i, hi with | 0, _ => simp [cv_u_at] | 1, _ => simp [cv_u_at] | 2, _ => simp [cv_u_at] | 3, _ => simp [cv_u_at] | 4, _ => simp [cv_u_at]⟩

set_option maxHeartbeats 4000000 in
set_option maxRecDepth 100000 in
theorem kX0_settle (tx fr n : Nat) (g : Nat → Int32) (σ : cv_St) (htx : 6 ≤ tx ∧ tx < 10) (hX : cv_TX tx fr n g σ) (hff : cv_ff g n = none) : cv_Ct yX0_settle cX0_settle 4 none 3 0 0 27 (cv_shT tx) [.ref 10, .ref 26] σ (fun v u => v = none ∧ (∀ k, k ≠ 10 → k ≠ 18 → k ≠ 19 → ¬ (12 ≤ k ∧ k < 18) → u k = σ k) ∧ cv_LC (cv_tl g n) u ∧ u 10 5 = nI 1) := by
  refine cv_enter (own := RX0) (by decide) rfl (Nat.le_of_ble_eq_true rfl) ?_
  intro X a C Rt hRm
  have D := @cv_dec _ _ dkX0_settle
  have hn60 := hX.2.2.1
  obtain ⟨hgo, hn21, hn6⟩ := cv_ff_none hff
  have hLB := (cv_tl_B hff).1
  have h76 : cv_tl g n 7 0 ≤ 6 := hLB.1
  have h7e : cv_tl g n 7 0 = (n - 21) / 6 := rfl
  show cv_At X _ _ σ 0 [(0, .ref 10), (1, .ref 26)] []
  refine cv_iconst C (pc' := 1) rfl (D 0 (0, .iconst 0, 1) rfl) (v := nI 0) (by decide) ?_
  refine cv_istore_n C (pc' := 2) rfl (D 1 (1, .istore_n 2, 1) rfl) rfl (by decide) (lv' := [(2, .int (nI 0)), (0, .ref 10), (1, .ref 26)]) rfl ?_
  have LP2 : ∀ (r : Nat) (d : Nat) (τ : cv_St), (d + r = 8) → ((∀ k, k ≠ 18 → τ k = σ k) ∧ ∀ q, q < d → τ 18 q = nI (cv_tl g n 5 q)) → cv_At X (27, (cv_shT tx), 0, 0, a) 4 τ 2 [(2, .int (nI d)), (0, .ref 10), (1, .ref 26)] [] := by
    intro r
    induction r with
    | zero =>
      intro d τ hr hI
      obtain rfl : d = 8 := by omega
      refine cv_iload_n C (pc' := 3) rfl (D 2 (2, .iload_n 2, 1) rfl) rfl (j := 0) rfl ?_
      refine cv_bipush C (pc' := 5) rfl (D 3 (3, .bipush 8, 2) rfl) (v := nI 8) (by decide) ?_
      refine cv_icmp_ge C (pc' := 8) rfl (tgt := 27) (D 4 (5, .if_icmp .ge 22, 3) rfl) (by decide) (fun _ => ?_) (fun h => absurd h (by decide))
      refine cv_iconst C (pc' := 28) rfl (D 16 (27, .iconst 0, 1) rfl) (v := nI 0) (by decide) ?_
      refine cv_istore_n C (pc' := 29) rfl (D 17 (28, .istore_n 2, 1) rfl) rfl (by decide) (lv' := [(2, .int (nI 0)), (0, .ref 10), (1, .ref 26)]) rfl ?_
      have LP29 : ∀ (r : Nat) (v : Nat) (τ : cv_St), (v + r = 3) → ((∀ k, k ≠ 18 → k ≠ 19 → τ k = σ k) ∧ (∀ q, q < 8 → τ 18 q = nI (cv_tl g n 5 q)) ∧ ∀ q, q < v → τ 19 q = nI (cv_tl g n 6 q)) → cv_At X (27, (cv_shT tx), 0, 0, a) 4 τ 29 [(2, .int (nI v)), (0, .ref 10), (1, .ref 26)] [] := by
        intro r
        induction r with
        | zero =>
          intro v τ hr hI
          obtain rfl : v = 3 := by omega
          have hXτ := cv_TX_k hX (hI.1 26 (by decide) (by decide)) (hI.1 tx (by omega) (by omega))
          refine cv_iload_n C (pc' := 30) rfl (D 18 (29, .iload_n 2, 1) rfl) rfl (j := 0) rfl ?_
          refine cv_iconst C (pc' := 31) rfl (D 19 (30, .iconst 3, 1) rfl) (v := nI 3) (by decide) ?_
          refine cv_icmp_ge C (pc' := 34) rfl (tgt := 58) (D 20 (31, .if_icmp .ge 27, 3) rfl) (by decide) (fun _ => ?_) (fun h => absurd h (by decide))
          refine cv_aload_n C (pc' := 59) rfl (D 36 (58, .aload_n 1, 1) rfl) rfl (j := 2) rfl ?_
          refine cv_get C (pc' := 62) rfl (k0 := 26) (i := 2) (ci := 4) (by decide) rfl rfl (by decide) (o := none) rfl iw_X4 wfX0_40 (D 37 (59, .getfield 40, 3) rfl) (v := .int (nI n)) (congrArg Value.int hXτ.2.1) ?_
          refine cv_bipush C (pc' := 64) rfl (D 38 (62, .bipush 21, 2) rfl) (v := nI 21) (by decide) ?_
          refine cv_isubN C (pc' := 65) rfl (by omega) (D 39 (64, .isub, 1) rfl) ?_
          refine cv_bipush C (pc' := 67) rfl (D 40 (65, .bipush 6, 2) rfl) (v := nI 6) (by decide) ?_
          refine cv_idivN C (pc' := 68) rfl (by omega) (by decide) (by decide) (D 41 (67, .idiv, 1) rfl) ?_
          refine cv_istore_n C (pc' := 69) rfl (D 42 (68, .istore_n 2, 1) rfl) rfl (by decide) (lv' := [(2, .int (nI ((n - 21) / 6))), (0, .ref 10), (1, .ref 26)]) rfl ?_
          refine cv_aload_n C (pc' := 70) rfl (D 43 (69, .aload_n 0, 1) rfl) rfl (j := 1) rfl ?_
          refine cv_iload_n C (pc' := 71) rfl (D 44 (70, .iload_n 2, 1) rfl) rfl (j := 0) rfl ?_
          refine cv_bipush C (pc' := 73) rfl (D 45 (71, .bipush 6, 2) rfl) (v := nI 6) (by decide) ?_
          refine cv_mmin C (pc' := 76) rfl wmX0_44 wt_yJ9_min_7cf53 wn_J9 wc_yJ9_min_7cf53 (by decide) (D 46 (73, .invokestatic 44, 3) rfl) (Nat.le_of_ble_eq_true rfl) ?_
          refine cv_top (w := nI (cv_tl g n 7 0)) (by rw [if_neg (fun h => absurd ((nI_ltI (by omega) (by omega)).mp h) (by omega))]; rfl) ?_
          refine cv_put C (pc' := 79) rfl (k0 := 10) (i := 6) (ci := 0) (by decide) rfl rfl (by decide) rfl iw_X0 tyX0 tyX0_ok nmX0 wfX0_50 rfl rfl rfl (D 47 (76, .putfield 50, 3) rfl) ?_
          refine cv_iconst C (pc' := 80) rfl (D 48 (79, .iconst 0, 1) rfl) (v := nI 0) (by decide) ?_
          refine cv_istore_n C (pc' := 81) rfl (D 49 (80, .istore_n 3, 1) rfl) rfl (by decide) (lv' := [(3, .int (nI 0)), (2, .int (nI ((n - 21) / 6))), (0, .ref 10), (1, .ref 26)]) rfl ?_
          have LP81 : ∀ (r : Nat) (p : Nat) (τ : cv_St), (p + r = cv_tl g n 7 0) → ((∀ k, k ≠ 10 → k ≠ 18 → k ≠ 19 → ¬ (12 ≤ k ∧ k < 18) → τ k = σ k) ∧ (∀ q, q < 8 → τ 18 q = nI (cv_tl g n 5 q)) ∧ (∀ q, q < 3 → τ 19 q = nI (cv_tl g n 6 q)) ∧ τ 10 6 = nI (cv_tl g n 7 0) ∧ ∀ q, q < p → ∀ i, i < 5 → τ (12 + q) i = nI (cv_tl g n i q)) → cv_At X (27, (cv_shT tx), 0, 0, a) 4 τ 81 [(3, .int (nI p)), (0, .ref 10), (1, .ref 26)] [] := by
            intro r
            induction r with
            | zero =>
              intro p τ hr hI
              refine cv_iload_n C (pc' := 82) rfl (D 50 (81, .iload_n 3, 1) rfl) rfl (j := 0) rfl ?_
              refine cv_aload_n C (pc' := 83) rfl (D 51 (82, .aload_n 0, 1) rfl) rfl (j := 1) rfl ?_
              refine cv_get C (pc' := 86) rfl (k0 := 10) (i := 6) (ci := 0) (by decide) rfl rfl (by decide) (o := none) rfl iw_X0 wfX0_50 (D 52 (83, .getfield 50, 3) rfl) (v := .int (nI (cv_tl g n 7 0))) (congrArg Value.int hI.2.2.2.1) ?_
              refine cv_icmp_geN C (pc' := 89) rfl (by omega) (by omega) (tgt := 112) (D 53 (86, .if_icmp .ge 26, 3) rfl) (by decide) (fun b86 => ?_) (fun b86 => ?_)
              · skip
                refine cv_aload_n C (pc' := 113) rfl (D 67 (112, .aload_n 0, 1) rfl) rfl (j := 1) rfl ?_
                refine cv_iconst C (pc' := 114) rfl (D 68 (113, .iconst 1, 1) rfl) (v := nI 1) (by decide) ?_
                refine cv_put C (pc' := 117) rfl (k0 := 10) (i := 5) (ci := 0) (by decide) rfl rfl (by decide) rfl iw_X0 tyX0 tyX0_ok nmX0 wfX0_57 rfl (by decide) (by decide) (D 69 (114, .putfield 57, 3) rfl) ?_
                exact cv_vret C Rt (D 70 (117, .return_, 1) rfl) ⟨rfl, fun k h1 h2 h3 h4 => by rw [cv_u_c h1]; exact hI.1 k h1 h2 h3 h4, ⟨by rw [cv_u_i (by decide)]; exact hI.2.2.2.1, fun q hq => by rw [cv_u_c (by decide)]; exact hI.2.1 q hq, fun q hq => by rw [cv_u_c (by decide)]; exact hI.2.2.1 q hq, fun q hq i hi => by rw [cv_u_c (by omega)]; exact hI.2.2.2.2 q (by omega) i hi⟩, cv_u_s⟩
              · skip
                omega
            | succ r ih81 =>
              intro p τ hr hI
              have hXτ := cv_TX_k hX (hI.1 26 (by decide) (by decide) (by decide) (by decide)) (hI.1 tx (by omega) (by omega) (by omega) (by omega))
              have hp6 : p < 6 := by omega
              have hpw := cv_w_pass hgo (p := p) (by omega)
              refine cv_iload_n C (pc' := 82) rfl (D 50 (81, .iload_n 3, 1) rfl) rfl (j := 0) rfl ?_
              refine cv_aload_n C (pc' := 83) rfl (D 51 (82, .aload_n 0, 1) rfl) rfl (j := 1) rfl ?_
              refine cv_get C (pc' := 86) rfl (k0 := 10) (i := 6) (ci := 0) (by decide) rfl rfl (by decide) (o := none) rfl iw_X0 wfX0_50 (D 52 (83, .getfield 50, 3) rfl) (v := .int (nI (cv_tl g n 7 0))) (congrArg Value.int hI.2.2.2.1) ?_
              refine cv_icmp_geN C (pc' := 89) rfl (by omega) (by omega) (tgt := 112) (D 53 (86, .if_icmp .ge 26, 3) rfl) (by decide) (fun b86 => ?_) (fun b86 => ?_)
              · skip
                omega
              · skip
                refine cv_aload_n C (pc' := 90) rfl (D 54 (89, .aload_n 0, 1) rfl) rfl (j := 1) rfl ?_
                refine cv_get C (pc' := 93) rfl (k0 := 10) (i := 0) (ci := 0) (by decide) rfl rfl (by decide) (o := some 11) rfl iw_X0 wfX0_11 (D 55 (90, .getfield 11, 3) rfl) rfl ?_
                refine cv_iload_n C (pc' := 94) rfl (D 56 (93, .iload_n 3, 1) rfl) rfl (j := 0) rfl ?_
                refine cv_aald C (pc' := 95) rfl (k0 := 11) (j := p) (r := 12 + p) (by decide) rfl rfl rfl (cv_ix_p hp6) (by decide) (D 57 (94, .aaload, 1) rfl) ?_
                refine cv_aload_n C (pc' := 96) rfl (D 58 (95, .aload_n 1, 1) rfl) rfl (j := 2) rfl ?_
                refine cv_bipush C (pc' := 98) rfl (D 59 (96, .bipush 21, 2) rfl) (v := nI 21) (by decide) ?_
                refine cv_bipush C (pc' := 100) rfl (D 60 (98, .bipush 6, 2) rfl) (v := nI 6) (by decide) ?_
                refine cv_iload_n C (pc' := 101) rfl (D 61 (100, .iload_n 3, 1) rfl) rfl (j := 0) rfl ?_
                refine cv_imulN C (pc' := 102) rfl (D 62 (101, .imul, 1) rfl) ?_
                refine cv_iaddN C (pc' := 103) rfl (D 63 (102, .iadd, 1) rfl) ?_
                refine cv_callS C (pc' := 106) rfl (As := [.ref (12 + p), .ref 26, .int (nI (21 + (6 * p)))]) (rest := []) (idx := 53) (np := 3) (kX0_settlePass tx fr n g p (21 + (6 * p)) (fun i => cv_tl g n i p) τ htx hXτ hp6 (by omega) (by obtain ⟨k, h1, h2, h3⟩ := hpw.1; rw [h1, ← h3]) hpw.2.1) (by decide +kernel) rfl wmX0_53 wt_yX0_settlePass wn_X0 wc_yX0_settlePass (by decide) (by decide) (D 64 (103, .invokestatic 53, 3) rfl) (Nat.le_of_ble_eq_true rfl) rfl (fun w103 u103 h103 => ?_)
                obtain ⟨e1, e2, e3⟩ := h103
                rw [e1]
                show cv_At X _ _ u103 106 _ []
                refine cv_iincN C (pc' := 109) rfl (D 65 (106, .iinc 3 1, 3) rfl) (j := 0) rfl (by decide) (lv' := [(3, .int (nI (p + 1))), (0, .ref 10), (1, .ref 26)]) rfl ?_
                refine cv_goto C (tgt := 81) (D 66 (109, .goto (-28), 3) rfl) (by decide) ?_
                exact ih81 (p + 1) u103 (by omega) ⟨fun k h1 h2 h3 h4 => (e2 k (by omega)).trans (hI.1 k h1 h2 h3 h4), fun q hq => by rw [e2 _ (by omega)]; exact hI.2.1 q hq, fun q hq => by rw [e2 _ (by omega)]; exact hI.2.2.1 q hq, by rw [e2 _ (by omega)]; exact hI.2.2.2.1, cv_ex (fun q hq i hi => by rw [e2 _ (by omega)]; exact hI.2.2.2.2 q hq i hi) e3⟩
          refine cv_pick [0, 2, 3] (lv' := [(3, .int (nI 0)), (0, .ref 10), (1, .ref 26)]) rfl ?_
          exact LP81 (cv_tl g n 7 0) 0 (cv_u τ 10 6 (nI (cv_tl g n 7 0))) (by omega) ⟨fun k h1 h2 h3 _ => by rw [cv_u_c h1]; exact hI.1 k h2 h3, fun q hq => by rw [cv_u_c (by decide)]; exact hI.2.1 q hq, fun q hq => by rw [cv_u_c (by decide)]; exact hI.2.2 q hq, cv_u_s, fun q h => by omega⟩
        | succ r ih29 =>
          intro v τ hr hI
          have hXτ := cv_TX_k hX (hI.1 26 (by decide) (by decide)) (hI.1 tx (by omega) (by omega))
          refine cv_iload_n C (pc' := 30) rfl (D 18 (29, .iload_n 2, 1) rfl) rfl (j := 0) rfl ?_
          refine cv_iconst C (pc' := 31) rfl (D 19 (30, .iconst 3, 1) rfl) (v := nI 3) (by decide) ?_
          refine cv_icmp_geN C (pc' := 34) rfl (by omega) (by omega) (tgt := 58) (D 20 (31, .if_icmp .ge 27, 3) rfl) (by decide) (fun b31 => ?_) (fun b31 => ?_)
          · skip
            omega
          · skip
            refine cv_aload_n C (pc' := 35) rfl (D 21 (34, .aload_n 0, 1) rfl) rfl (j := 1) rfl ?_
            refine cv_get C (pc' := 38) rfl (k0 := 10) (i := 2) (ci := 0) (by decide) rfl rfl (by decide) (o := some 19) rfl iw_X0 wfX0_21 (D 22 (35, .getfield 21, 3) rfl) rfl ?_
            refine cv_iload_n C (pc' := 39) rfl (D 23 (38, .iload_n 2, 1) rfl) rfl (j := 0) rfl ?_
            refine cv_aload_n C (pc' := 40) rfl (D 24 (39, .aload_n 1, 1) rfl) rfl (j := 2) rfl ?_
            refine cv_bipush C (pc' := 42) rfl (D 25 (40, .bipush 9, 2) rfl) (v := nI 9) (by decide) ?_
            refine cv_iconst C (pc' := 43) rfl (D 26 (42, .iconst 4, 1) rfl) (v := nI 4) (by decide) ?_
            refine cv_iload_n C (pc' := 44) rfl (D 27 (43, .iload_n 2, 1) rfl) rfl (j := 0) rfl ?_
            refine cv_imulN C (pc' := 45) rfl (D 28 (44, .imul, 1) rfl) ?_
            refine cv_iaddN C (pc' := 46) rfl (D 29 (45, .iadd, 1) rfl) ?_
            refine cv_iconst C (pc' := 47) rfl (D 30 (46, .iconst 1, 1) rfl) (v := nI 1) (by decide) ?_
            refine cv_iaddN C (pc' := 48) rfl (D 31 (47, .iadd, 1) rfl) ?_
            refine cv_callV C (pc' := 51) rfl (k0 := 26) (ci := 4) (As := [.int (nI ((9 + (4 * v)) + 1))]) (rest := [.int (nI v), .ref 19]) (idx := 37) (np := 1) (kX4_numberAt tx fr n g ((9 + (4 * v)) + 1) τ htx hXτ (by omega)) (by decide) rfl rfl rfl (by decide +kernel) rfl wmX0_37 wi_yX4_numberAt ws_yX4_numberAt wn_X4 wc_yX4_numberAt (by decide) (by decide) (D 32 (48, .invokevirtual 37, 3) rfl) (Nat.le_of_ble_eq_true rfl) rfl (fun w9 u9 h9 => ?_)
            rw [h9.1, h9.2]
            show cv_At X _ _ τ 51 _ [.int ((g ((9 + (4 * v)) + 1) - nI 48) * nI 100 + (g ((9 + (4 * v)) + 1 + 1) - nI 48) * nI 10 + (g ((9 + (4 * v)) + 1 + 2) - nI 48)), .int (nI v), .ref 19]
            obtain ⟨⟨w1, w2, w3⟩, w4⟩ := cv_w_give hgo hn21 (v := v) (by omega)
            refine cv_top (w := nI (cv_tl g n 6 v)) (by rw [w1, w2, w3, pk_mul, pk_mul, nI_add, nI_add]; rfl) ?_
            refine cv_iast C (pc' := 52) rfl (k0 := 19) (j := v) (by decide) rfl rfl (by omega) (by decide) (D 33 (51, .iastore, 1) rfl) ?_
            refine cv_iincN C (pc' := 55) rfl (D 34 (52, .iinc 2 1, 3) rfl) (j := 0) rfl (by decide) (lv' := [(2, .int (nI (v + 1))), (0, .ref 10), (1, .ref 26)]) rfl ?_
            refine cv_goto C (tgt := 29) (D 35 (55, .goto (-26), 3) rfl) (by decide) ?_
            exact ih29 (v + 1) (cv_u τ 19 v (nI (cv_tl g n 6 v))) (by omega) ⟨fun k h1 h2 => by rw [cv_u_c h2]; exact hI.1 k h1 h2, fun q hq => by rw [cv_u_c (by decide)]; exact hI.2.1 q hq, cv_ex (fun q hq => by rw [cv_u_i (by omega)]; exact hI.2.2 q hq) cv_u_s⟩
      exact LP29 3 0 τ (by decide) ⟨fun k h _ => hI.1 k h, hI.2, fun q h => by omega⟩
    | succ r ih2 =>
      intro d τ hr hI
      have hXτ := cv_TX_k hX (hI.1 26 (by decide)) (hI.1 tx (by omega))
      refine cv_iload_n C (pc' := 3) rfl (D 2 (2, .iload_n 2, 1) rfl) rfl (j := 0) rfl ?_
      refine cv_bipush C (pc' := 5) rfl (D 3 (3, .bipush 8, 2) rfl) (v := nI 8) (by decide) ?_
      refine cv_icmp_geN C (pc' := 8) rfl (by omega) (by omega) (tgt := 27) (D 4 (5, .if_icmp .ge 22, 3) rfl) (by decide) (fun b5 => ?_) (fun b5 => ?_)
      · skip
        omega
      · skip
        refine cv_aload_n C (pc' := 9) rfl (D 5 (8, .aload_n 0, 1) rfl) rfl (j := 1) rfl ?_
        refine cv_get C (pc' := 12) rfl (k0 := 10) (i := 1) (ci := 0) (by decide) rfl rfl (by decide) (o := some 18) rfl iw_X0 wfX0_17 (D 6 (9, .getfield 17, 3) rfl) rfl ?_
        refine cv_iload_n C (pc' := 13) rfl (D 7 (12, .iload_n 2, 1) rfl) rfl (j := 0) rfl ?_
        refine cv_aload_n C (pc' := 14) rfl (D 8 (13, .aload_n 1, 1) rfl) rfl (j := 2) rfl ?_
        refine cv_iconst C (pc' := 15) rfl (D 9 (14, .iconst 1, 1) rfl) (v := nI 1) (by decide) ?_
        refine cv_iload_n C (pc' := 16) rfl (D 10 (15, .iload_n 2, 1) rfl) rfl (j := 0) rfl ?_
        refine cv_iaddN C (pc' := 17) rfl (D 11 (16, .iadd, 1) rfl) ?_
        refine cv_callV C (pc' := 20) rfl (k0 := 26) (ci := 4) (As := [.int (nI (1 + d))]) (rest := [.int (nI d), .ref 18]) (idx := 31) (np := 1) (kX4_digitAt tx fr n g (1 + d) τ htx hXτ (by omega)) (by decide) rfl rfl rfl (by decide +kernel) rfl wmX0_31 wi_yX4_digitAt ws_yX4_digitAt wn_X4 wc_yX4_digitAt (by decide) (by decide) (D 12 (17, .invokevirtual 31, 3) rfl) (Nat.le_of_ble_eq_true rfl) rfl (fun w9 u9 h9 => ?_)
        rw [h9.1, h9.2]
        show cv_At X _ _ τ 20 _ [.int (g (1 + d) - nI 48), .int (nI d), .ref 18]
        refine cv_top (w := nI (cv_tl g n 5 d)) (cv_w_snow hgo hn21 (by omega)).1 ?_
        refine cv_iast C (pc' := 21) rfl (k0 := 18) (j := d) (by decide) rfl rfl (by omega) (by decide) (D 13 (20, .iastore, 1) rfl) ?_
        refine cv_iincN C (pc' := 24) rfl (D 14 (21, .iinc 2 1, 3) rfl) (j := 0) rfl (by decide) (lv' := [(2, .int (nI (d + 1))), (0, .ref 10), (1, .ref 26)]) rfl ?_
        refine cv_goto C (tgt := 2) (D 15 (24, .goto (-22), 3) rfl) (by decide) ?_
        exact ih2 (d + 1) (cv_u τ 18 d (nI (cv_tl g n 5 d))) (by omega) ⟨fun k hk => by rw [cv_u_c hk]; exact hI.1 k hk, cv_ex (fun q hq => by rw [cv_u_i (by omega)]; exact hI.2 q hq) cv_u_s⟩
  exact LP2 8 0 σ (by decide) ⟨fun _ _ => rfl, fun q h => by omega⟩

