set_option maxHeartbeats 4000000 in
set_option maxRecDepth 100000 in
theorem cv_c_land {p : Program} {l : Launch} {e : Env} {s : State} {m : MethodId} {below : List Frame} {meth : Method} {c : Code} {b L : Nat} {xs : Nat → Int32} {D : va_G} {cA : Nat → ClassId} {a ab : Nat → Nat} {σ μ : cv_St} {ls : Array Slot} {cells slots i : Nat} (X : cv_LX p s m meth c b L xs D cA a ab) (hl : lv_has ls 4 [(3, .int (nI i)), (0, .ref b), (1, .ref (a 0)), (2, .ref (ab 0))]) (hi : i + 7 ≤ L) (hI : cv_I σ μ) (hc : cells + 1 ≤ 600000) (hs : slots + 3 ≤ 7302250) (K : ∀ u w, cv_I u w → ∀ cells' slots', cells' ≤ cells + 1 → slots' ≤ slots + 3 → cv_LA p l e s m below meth c b D cA a ab u w ls cells' slots' 1132 []) : cv_LA p l e s m below meth c b D cA a ab σ μ ls cells slots 168 [] := by
  obtain ⟨x, P1, P2, h1, h2, h3⟩ := cv_p_land (xs (i + 1)) (xs (i + 2)) (xs (i + 3)) (xs (i + 4)) hI
  obtain ⟨hx, hb, hr, hml, hown, hts0, hX, hbl, hlocks, hgv⟩ := X.1
  have hL := X.2.1
  intro H locs hP hM hS
  refine lv_aload_n hx hb (cv_dec dkL_law0 22 (168, .aload_n 1, 1) rfl) rfl (lv_at hl 2 rfl) ?_
  refine cv_larg hx hb hX hbl hS (lv_at hl 1 rfl) (lv_at hl 0 rfl) (k := 1) (by omega) hL (by decide) (cv_dec dkL_law0 23 (169, .aload_n 0, 1) rfl) (cv_dec dkL_law0 24 (170, .iload_n 3, 1) rfl) (cv_dec dkL_law0 25 (171, .iconst 1, 1) rfl) (cv_dec dkL_law0 26 (172, .iadd, 1) rfl) (cv_dec dkL_law0 27 (173, .iaload, 1) rfl) ?_
  refine cv_larg hx hb hX hbl hS (lv_at hl 1 rfl) (lv_at hl 0 rfl) (k := 2) (by omega) hL (by decide) (cv_dec dkL_law0 28 (174, .aload_n 0, 1) rfl) (cv_dec dkL_law0 29 (175, .iload_n 3, 1) rfl) (cv_dec dkL_law0 30 (176, .iconst 2, 1) rfl) (cv_dec dkL_law0 31 (177, .iadd, 1) rfl) (cv_dec dkL_law0 32 (178, .iaload, 1) rfl) ?_
  refine cv_larg hx hb hX hbl hS (lv_at hl 1 rfl) (lv_at hl 0 rfl) (k := 3) (by omega) hL (by decide) (cv_dec dkL_law0 33 (179, .aload_n 0, 1) rfl) (cv_dec dkL_law0 34 (180, .iload_n 3, 1) rfl) (cv_dec dkL_law0 35 (181, .iconst 3, 1) rfl) (cv_dec dkL_law0 36 (182, .iadd, 1) rfl) (cv_dec dkL_law0 37 (183, .iaload, 1) rfl) ?_
  refine cv_larg hx hb hX hbl hS (lv_at hl 1 rfl) (lv_at hl 0 rfl) (k := 4) (by omega) hL (by decide) (cv_dec dkL_law0 38 (184, .aload_n 0, 1) rfl) (cv_dec dkL_law0 39 (185, .iload_n 3, 1) rfl) (cv_dec dkL_law0 40 (186, .iconst 4, 1) rfl) (cv_dec dkL_law0 41 (187, .iadd, 1) rfl) (cv_dec dkL_law0 42 (188, .iaload, 1) rfl) ?_
  refine cv_lcC X hl.1 (As := [.int (xs (i + 1)), .int (xs (i + 2)), .int (xs (i + 3)), .int (xs (i + 4))]) (np := 4) (rest := []) h1 rfl (by decide +kernel) rfl wmL_13 wi_yX6_land ws_yX6_land wc_yX6_land (by decide) (by decide) (by omega) (by omega) (cv_dec dkL_law0 43 (189, .invokevirtual 13, 3) rfl) (Nat.le_of_ble_eq_true rfl) rfl (fun v u hv => ?_) H locs hP hM hS
  obtain ⟨rfl, hu⟩ := hv
  intro H locs hP hM hS
  refine lv_aload_n hx hb (cv_dec dkL_law0 44 (192, .aload_n 2, 1) rfl) rfl (lv_at hl 3 rfl) ?_
  refine cv_larg hx hb hX hbl hS (lv_at hl 1 rfl) (lv_at hl 0 rfl) (k := 1) (by omega) hL (by decide) (cv_dec dkL_law0 45 (193, .aload_n 0, 1) rfl) (cv_dec dkL_law0 46 (194, .iload_n 3, 1) rfl) (cv_dec dkL_law0 47 (195, .iconst 1, 1) rfl) (cv_dec dkL_law0 48 (196, .iadd, 1) rfl) (cv_dec dkL_law0 49 (197, .iaload, 1) rfl) ?_
  refine cv_larg hx hb hX hbl hS (lv_at hl 1 rfl) (lv_at hl 0 rfl) (k := 2) (by omega) hL (by decide) (cv_dec dkL_law0 50 (198, .aload_n 0, 1) rfl) (cv_dec dkL_law0 51 (199, .iload_n 3, 1) rfl) (cv_dec dkL_law0 52 (200, .iconst 2, 1) rfl) (cv_dec dkL_law0 53 (201, .iadd, 1) rfl) (cv_dec dkL_law0 54 (202, .iaload, 1) rfl) ?_
  refine cv_larg hx hb hX hbl hS (lv_at hl 1 rfl) (lv_at hl 0 rfl) (k := 3) (by omega) hL (by decide) (cv_dec dkL_law0 55 (203, .aload_n 0, 1) rfl) (cv_dec dkL_law0 56 (204, .iload_n 3, 1) rfl) (cv_dec dkL_law0 57 (205, .iconst 3, 1) rfl) (cv_dec dkL_law0 58 (206, .iadd, 1) rfl) (cv_dec dkL_law0 59 (207, .iaload, 1) rfl) ?_
  refine cv_larg hx hb hX hbl hS (lv_at hl 1 rfl) (lv_at hl 0 rfl) (k := 4) (by omega) hL (by decide) (cv_dec dkL_law0 60 (208, .aload_n 0, 1) rfl) (cv_dec dkL_law0 61 (209, .iload_n 3, 1) rfl) (cv_dec dkL_law0 62 (210, .iconst 4, 1) rfl) (cv_dec dkL_law0 63 (211, .iadd, 1) rfl) (cv_dec dkL_law0 64 (212, .iaload, 1) rfl) ?_
  refine cv_lcM X hl.1 (As := [.int (xs (i + 1)), .int (xs (i + 2)), .int (xs (i + 3)), .int (xs (i + 4))]) (np := 4) (rest := [.int x]) h2 rfl (by decide +kernel) rfl wmL_17 wi_yX7_land ws_yX7_land wc_yX7_land (by decide) (by decide) (by omega) (by omega) (cv_dec dkL_law0 65 (213, .invokevirtual 17, 3) rfl) (Nat.le_of_ble_eq_true rfl) rfl (fun v w hv => ?_) H locs hP hM hS
  obtain ⟨rfl, hw⟩ := hv
  intro H locs hP hM hS
  exact lv_icmp_eq (tgt := 1132) hx hb (cv_dec dkL_law0 66 (216, .if_icmp .eq 916, 3) rfl) (by decide) (fun _ => K u w (h3 u w hu hw) _ _ (by omega) (by omega) H locs hP hM hS) (fun hne => absurd rfl hne)
set_option maxHeartbeats 4000000 in
set_option maxRecDepth 100000 in
theorem cv_c_ofPass {p : Program} {l : Launch} {e : Env} {s : State} {m : MethodId} {below : List Frame} {meth : Method} {c : Code} {b L : Nat} {xs : Nat → Int32} {D : va_G} {cA : Nat → ClassId} {a ab : Nat → Nat} {σ μ : cv_St} {ls : Array Slot} {cells slots i : Nat} (X : cv_LX p s m meth c b L xs D cA a ab) (hl : lv_has ls 4 [(3, .int (nI i)), (0, .ref b), (1, .ref (a 0)), (2, .ref (ab 0))]) (hi : i + 7 ≤ L) (hI : cv_I σ μ) (hc : cells + 1 ≤ 600000) (hs : slots + 3 ≤ 7302250) (K : ∀ u w, cv_I u w → ∀ cells' slots', cells' ≤ cells + 1 → slots' ≤ slots + 3 → cv_LA p l e s m below meth c b D cA a ab u w ls cells' slots' 1132 []) : cv_LA p l e s m below meth c b D cA a ab σ μ ls cells slots 221 [] := by
  obtain ⟨x, P1, P2, h1, h2, h3⟩ := cv_p_ofPass (xs (i + 1)) (xs (i + 2)) hI
  obtain ⟨hx, hb, hr, hml, hown, hts0, hX, hbl, hlocks, hgv⟩ := X.1
  have hL := X.2.1
  intro H locs hP hM hS
  refine lv_aload_n hx hb (cv_dec dkL_law0 69 (221, .aload_n 1, 1) rfl) rfl (lv_at hl 2 rfl) ?_
  refine cv_larg hx hb hX hbl hS (lv_at hl 1 rfl) (lv_at hl 0 rfl) (k := 1) (by omega) hL (by decide) (cv_dec dkL_law1 0 (222, .aload_n 0, 1) rfl) (cv_dec dkL_law1 1 (223, .iload_n 3, 1) rfl) (cv_dec dkL_law1 2 (224, .iconst 1, 1) rfl) (cv_dec dkL_law1 3 (225, .iadd, 1) rfl) (cv_dec dkL_law1 4 (226, .iaload, 1) rfl) ?_
  refine cv_larg hx hb hX hbl hS (lv_at hl 1 rfl) (lv_at hl 0 rfl) (k := 2) (by omega) hL (by decide) (cv_dec dkL_law1 5 (227, .aload_n 0, 1) rfl) (cv_dec dkL_law1 6 (228, .iload_n 3, 1) rfl) (cv_dec dkL_law1 7 (229, .iconst 2, 1) rfl) (cv_dec dkL_law1 8 (230, .iadd, 1) rfl) (cv_dec dkL_law1 9 (231, .iaload, 1) rfl) ?_
  refine cv_lcC X hl.1 (As := [.int (xs (i + 1)), .int (xs (i + 2))]) (np := 2) (rest := []) h1 rfl (by decide +kernel) rfl wmL_18 wi_yX6_ofPass ws_yX6_ofPass wc_yX6_ofPass (by decide) (by decide) (by omega) (by omega) (cv_dec dkL_law1 10 (232, .invokevirtual 18, 3) rfl) (Nat.le_of_ble_eq_true rfl) rfl (fun v u hv => ?_) H locs hP hM hS
  obtain ⟨rfl, hu⟩ := hv
  intro H locs hP hM hS
  refine lv_aload_n hx hb (cv_dec dkL_law1 11 (235, .aload_n 2, 1) rfl) rfl (lv_at hl 3 rfl) ?_
  refine cv_larg hx hb hX hbl hS (lv_at hl 1 rfl) (lv_at hl 0 rfl) (k := 1) (by omega) hL (by decide) (cv_dec dkL_law1 12 (236, .aload_n 0, 1) rfl) (cv_dec dkL_law1 13 (237, .iload_n 3, 1) rfl) (cv_dec dkL_law1 14 (238, .iconst 1, 1) rfl) (cv_dec dkL_law1 15 (239, .iadd, 1) rfl) (cv_dec dkL_law1 16 (240, .iaload, 1) rfl) ?_
  refine cv_larg hx hb hX hbl hS (lv_at hl 1 rfl) (lv_at hl 0 rfl) (k := 2) (by omega) hL (by decide) (cv_dec dkL_law1 17 (241, .aload_n 0, 1) rfl) (cv_dec dkL_law1 18 (242, .iload_n 3, 1) rfl) (cv_dec dkL_law1 19 (243, .iconst 2, 1) rfl) (cv_dec dkL_law1 20 (244, .iadd, 1) rfl) (cv_dec dkL_law1 21 (245, .iaload, 1) rfl) ?_
  refine cv_lcM X hl.1 (As := [.int (xs (i + 1)), .int (xs (i + 2))]) (np := 2) (rest := [.int x]) h2 rfl (by decide +kernel) rfl wmL_22 wi_yX7_ofPass ws_yX7_ofPass wc_yX7_ofPass (by decide) (by decide) (by omega) (by omega) (cv_dec dkL_law1 22 (246, .invokevirtual 22, 3) rfl) (Nat.le_of_ble_eq_true rfl) rfl (fun v w hv => ?_) H locs hP hM hS
  obtain ⟨rfl, hw⟩ := hv
  intro H locs hP hM hS
  exact lv_icmp_eq (tgt := 1132) hx hb (cv_dec dkL_law1 23 (249, .if_icmp .eq 883, 3) rfl) (by decide) (fun _ => K u w (h3 u w hu hw) _ _ (by omega) (by omega) H locs hP hM hS) (fun hne => absurd rfl hne)
set_option maxHeartbeats 4000000 in
set_option maxRecDepth 100000 in
theorem cv_c_snow {p : Program} {l : Launch} {e : Env} {s : State} {m : MethodId} {below : List Frame} {meth : Method} {c : Code} {b L : Nat} {xs : Nat → Int32} {D : va_G} {cA : Nat → ClassId} {a ab : Nat → Nat} {σ μ : cv_St} {ls : Array Slot} {cells slots i : Nat} (X : cv_LX p s m meth c b L xs D cA a ab) (hl : lv_has ls 4 [(3, .int (nI i)), (0, .ref b), (1, .ref (a 0)), (2, .ref (ab 0))]) (hi : i + 7 ≤ L) (hI : cv_I σ μ) (hc : cells + 1 ≤ 600000) (hs : slots + 3 ≤ 7302250) (K : ∀ u w, cv_I u w → ∀ cells' slots', cells' ≤ cells + 1 → slots' ≤ slots + 3 → cv_LA p l e s m below meth c b D cA a ab u w ls cells' slots' 1132 []) : cv_LA p l e s m below meth c b D cA a ab σ μ ls cells slots 254 [] := by
  obtain ⟨x, P1, P2, h1, h2, h3⟩ := cv_p_snow (xs (i + 1)) (xs (i + 2)) hI
  obtain ⟨hx, hb, hr, hml, hown, hts0, hX, hbl, hlocks, hgv⟩ := X.1
  have hL := X.2.1
  intro H locs hP hM hS
  refine lv_aload_n hx hb (cv_dec dkL_law1 26 (254, .aload_n 1, 1) rfl) rfl (lv_at hl 2 rfl) ?_
  refine cv_larg hx hb hX hbl hS (lv_at hl 1 rfl) (lv_at hl 0 rfl) (k := 1) (by omega) hL (by decide) (cv_dec dkL_law1 27 (255, .aload_n 0, 1) rfl) (cv_dec dkL_law1 28 (256, .iload_n 3, 1) rfl) (cv_dec dkL_law1 29 (257, .iconst 1, 1) rfl) (cv_dec dkL_law1 30 (258, .iadd, 1) rfl) (cv_dec dkL_law1 31 (259, .iaload, 1) rfl) ?_
  refine cv_larg hx hb hX hbl hS (lv_at hl 1 rfl) (lv_at hl 0 rfl) (k := 2) (by omega) hL (by decide) (cv_dec dkL_law1 32 (260, .aload_n 0, 1) rfl) (cv_dec dkL_law1 33 (261, .iload_n 3, 1) rfl) (cv_dec dkL_law1 34 (262, .iconst 2, 1) rfl) (cv_dec dkL_law1 35 (263, .iadd, 1) rfl) (cv_dec dkL_law1 36 (264, .iaload, 1) rfl) ?_
  refine cv_lcC X hl.1 (As := [.int (xs (i + 1)), .int (xs (i + 2))]) (np := 2) (rest := []) h1 rfl (by decide +kernel) rfl wmL_23 wi_yX6_snow ws_yX6_snow wc_yX6_snow (by decide) (by decide) (by omega) (by omega) (cv_dec dkL_law1 37 (265, .invokevirtual 23, 3) rfl) (Nat.le_of_ble_eq_true rfl) rfl (fun v u hv => ?_) H locs hP hM hS
  obtain ⟨rfl, hu⟩ := hv
  intro H locs hP hM hS
  refine lv_aload_n hx hb (cv_dec dkL_law1 38 (268, .aload_n 2, 1) rfl) rfl (lv_at hl 3 rfl) ?_
  refine cv_larg hx hb hX hbl hS (lv_at hl 1 rfl) (lv_at hl 0 rfl) (k := 1) (by omega) hL (by decide) (cv_dec dkL_law1 39 (269, .aload_n 0, 1) rfl) (cv_dec dkL_law1 40 (270, .iload_n 3, 1) rfl) (cv_dec dkL_law1 41 (271, .iconst 1, 1) rfl) (cv_dec dkL_law1 42 (272, .iadd, 1) rfl) (cv_dec dkL_law1 43 (273, .iaload, 1) rfl) ?_
  refine cv_larg hx hb hX hbl hS (lv_at hl 1 rfl) (lv_at hl 0 rfl) (k := 2) (by omega) hL (by decide) (cv_dec dkL_law1 44 (274, .aload_n 0, 1) rfl) (cv_dec dkL_law1 45 (275, .iload_n 3, 1) rfl) (cv_dec dkL_law1 46 (276, .iconst 2, 1) rfl) (cv_dec dkL_law1 47 (277, .iadd, 1) rfl) (cv_dec dkL_law1 48 (278, .iaload, 1) rfl) ?_
  refine cv_lcM X hl.1 (As := [.int (xs (i + 1)), .int (xs (i + 2))]) (np := 2) (rest := [.int x]) h2 rfl (by decide +kernel) rfl wmL_26 wi_yX7_snow ws_yX7_snow wc_yX7_snow (by decide) (by decide) (by omega) (by omega) (cv_dec dkL_law1 49 (279, .invokevirtual 26, 3) rfl) (Nat.le_of_ble_eq_true rfl) rfl (fun v w hv => ?_) H locs hP hM hS
  obtain ⟨rfl, hw⟩ := hv
  intro H locs hP hM hS
  exact lv_icmp_eq (tgt := 1132) hx hb (cv_dec dkL_law1 50 (282, .if_icmp .eq 850, 3) rfl) (by decide) (fun _ => K u w (h3 u w hu hw) _ _ (by omega) (by omega) H locs hP hM hS) (fun hne => absurd rfl hne)
set_option maxHeartbeats 4000000 in
set_option maxRecDepth 100000 in
theorem cv_c_give {p : Program} {l : Launch} {e : Env} {s : State} {m : MethodId} {below : List Frame} {meth : Method} {c : Code} {b L : Nat} {xs : Nat → Int32} {D : va_G} {cA : Nat → ClassId} {a ab : Nat → Nat} {σ μ : cv_St} {ls : Array Slot} {cells slots i : Nat} (X : cv_LX p s m meth c b L xs D cA a ab) (hl : lv_has ls 4 [(3, .int (nI i)), (0, .ref b), (1, .ref (a 0)), (2, .ref (ab 0))]) (hi : i + 7 ≤ L) (hI : cv_I σ μ) (hc : cells + 1 ≤ 600000) (hs : slots + 3 ≤ 7302250) (K : ∀ u w, cv_I u w → ∀ cells' slots', cells' ≤ cells + 1 → slots' ≤ slots + 3 → cv_LA p l e s m below meth c b D cA a ab u w ls cells' slots' 1132 []) : cv_LA p l e s m below meth c b D cA a ab σ μ ls cells slots 287 [] := by
  obtain ⟨x, P1, P2, h1, h2, h3⟩ := cv_p_give (xs (i + 1)) (xs (i + 2)) hI
  obtain ⟨hx, hb, hr, hml, hown, hts0, hX, hbl, hlocks, hgv⟩ := X.1
  have hL := X.2.1
  intro H locs hP hM hS
  refine lv_aload_n hx hb (cv_dec dkL_law1 53 (287, .aload_n 1, 1) rfl) rfl (lv_at hl 2 rfl) ?_
  refine cv_larg hx hb hX hbl hS (lv_at hl 1 rfl) (lv_at hl 0 rfl) (k := 1) (by omega) hL (by decide) (cv_dec dkL_law1 54 (288, .aload_n 0, 1) rfl) (cv_dec dkL_law1 55 (289, .iload_n 3, 1) rfl) (cv_dec dkL_law1 56 (290, .iconst 1, 1) rfl) (cv_dec dkL_law1 57 (291, .iadd, 1) rfl) (cv_dec dkL_law1 58 (292, .iaload, 1) rfl) ?_
  refine cv_larg hx hb hX hbl hS (lv_at hl 1 rfl) (lv_at hl 0 rfl) (k := 2) (by omega) hL (by decide) (cv_dec dkL_law1 59 (293, .aload_n 0, 1) rfl) (cv_dec dkL_law1 60 (294, .iload_n 3, 1) rfl) (cv_dec dkL_law1 61 (295, .iconst 2, 1) rfl) (cv_dec dkL_law1 62 (296, .iadd, 1) rfl) (cv_dec dkL_law1 63 (297, .iaload, 1) rfl) ?_
  refine cv_lcC X hl.1 (As := [.int (xs (i + 1)), .int (xs (i + 2))]) (np := 2) (rest := []) h1 rfl (by decide +kernel) rfl wmL_27 wi_yX6_give ws_yX6_give wc_yX6_give (by decide) (by decide) (by omega) (by omega) (cv_dec dkL_law1 64 (298, .invokevirtual 27, 3) rfl) (Nat.le_of_ble_eq_true rfl) rfl (fun v u hv => ?_) H locs hP hM hS
  obtain ⟨rfl, hu⟩ := hv
  intro H locs hP hM hS
  refine lv_aload_n hx hb (cv_dec dkL_law1 65 (301, .aload_n 2, 1) rfl) rfl (lv_at hl 3 rfl) ?_
  refine cv_larg hx hb hX hbl hS (lv_at hl 1 rfl) (lv_at hl 0 rfl) (k := 1) (by omega) hL (by decide) (cv_dec dkL_law1 66 (302, .aload_n 0, 1) rfl) (cv_dec dkL_law1 67 (303, .iload_n 3, 1) rfl) (cv_dec dkL_law1 68 (304, .iconst 1, 1) rfl) (cv_dec dkL_law1 69 (305, .iadd, 1) rfl) (cv_dec dkL_law2 0 (306, .iaload, 1) rfl) ?_
  refine cv_larg hx hb hX hbl hS (lv_at hl 1 rfl) (lv_at hl 0 rfl) (k := 2) (by omega) hL (by decide) (cv_dec dkL_law2 1 (307, .aload_n 0, 1) rfl) (cv_dec dkL_law2 2 (308, .iload_n 3, 1) rfl) (cv_dec dkL_law2 3 (309, .iconst 2, 1) rfl) (cv_dec dkL_law2 4 (310, .iadd, 1) rfl) (cv_dec dkL_law2 5 (311, .iaload, 1) rfl) ?_
  refine cv_lcM X hl.1 (As := [.int (xs (i + 1)), .int (xs (i + 2))]) (np := 2) (rest := [.int x]) h2 rfl (by decide +kernel) rfl wmL_30 wi_yX7_give ws_yX7_give wc_yX7_give (by decide) (by decide) (by omega) (by omega) (cv_dec dkL_law2 6 (312, .invokevirtual 30, 3) rfl) (Nat.le_of_ble_eq_true rfl) rfl (fun v w hv => ?_) H locs hP hM hS
  obtain ⟨rfl, hw⟩ := hv
  intro H locs hP hM hS
  exact lv_icmp_eq (tgt := 1132) hx hb (cv_dec dkL_law2 7 (315, .if_icmp .eq 817, 3) rfl) (by decide) (fun _ => K u w (h3 u w hu hw) _ _ (by omega) (by omega) H locs hP hM hS) (fun hne => absurd rfl hne)
set_option maxHeartbeats 4000000 in
set_option maxRecDepth 100000 in
theorem cv_c_open {p : Program} {l : Launch} {e : Env} {s : State} {m : MethodId} {below : List Frame} {meth : Method} {c : Code} {b L : Nat} {xs : Nat → Int32} {D : va_G} {cA : Nat → ClassId} {a ab : Nat → Nat} {σ μ : cv_St} {ls : Array Slot} {cells slots i : Nat} (X : cv_LX p s m meth c b L xs D cA a ab) (hl : lv_has ls 4 [(3, .int (nI i)), (0, .ref b), (1, .ref (a 0)), (2, .ref (ab 0))]) (hi : i + 7 ≤ L) (hI : cv_I σ μ) (hc : cells + 1 ≤ 600000) (hs : slots + 3 ≤ 7302250) (K : ∀ u w, cv_I u w → ∀ cells' slots', cells' ≤ cells + 1 → slots' ≤ slots + 3 → cv_LA p l e s m below meth c b D cA a ab u w ls cells' slots' 1132 []) : cv_LA p l e s m below meth c b D cA a ab σ μ ls cells slots 320 [] := by
  obtain ⟨x, P1, P2, h1, h2, h3⟩ := cv_p_open (xs (i + 1)) hI
  obtain ⟨hx, hb, hr, hml, hown, hts0, hX, hbl, hlocks, hgv⟩ := X.1
  have hL := X.2.1
  intro H locs hP hM hS
  refine lv_aload_n hx hb (cv_dec dkL_law2 10 (320, .aload_n 1, 1) rfl) rfl (lv_at hl 2 rfl) ?_
  refine cv_larg hx hb hX hbl hS (lv_at hl 1 rfl) (lv_at hl 0 rfl) (k := 1) (by omega) hL (by decide) (cv_dec dkL_law2 11 (321, .aload_n 0, 1) rfl) (cv_dec dkL_law2 12 (322, .iload_n 3, 1) rfl) (cv_dec dkL_law2 13 (323, .iconst 1, 1) rfl) (cv_dec dkL_law2 14 (324, .iadd, 1) rfl) (cv_dec dkL_law2 15 (325, .iaload, 1) rfl) ?_
  refine cv_lcC X hl.1 (As := [.int (xs (i + 1))]) (np := 1) (rest := []) h1 rfl (by decide +kernel) rfl wmL_31 wi_yX6_open ws_yX6_open wc_yX6_open (by decide) (by decide) (by omega) (by omega) (cv_dec dkL_law2 16 (326, .invokevirtual 31, 3) rfl) (Nat.le_of_ble_eq_true rfl) rfl (fun v u hv => ?_) H locs hP hM hS
  obtain ⟨rfl, hu⟩ := hv
  intro H locs hP hM hS
  refine lv_aload_n hx hb (cv_dec dkL_law2 17 (329, .aload_n 2, 1) rfl) rfl (lv_at hl 3 rfl) ?_
  refine cv_larg hx hb hX hbl hS (lv_at hl 1 rfl) (lv_at hl 0 rfl) (k := 1) (by omega) hL (by decide) (cv_dec dkL_law2 18 (330, .aload_n 0, 1) rfl) (cv_dec dkL_law2 19 (331, .iload_n 3, 1) rfl) (cv_dec dkL_law2 20 (332, .iconst 1, 1) rfl) (cv_dec dkL_law2 21 (333, .iadd, 1) rfl) (cv_dec dkL_law2 22 (334, .iaload, 1) rfl) ?_
  refine cv_lcM X hl.1 (As := [.int (xs (i + 1))]) (np := 1) (rest := [.int x]) h2 rfl (by decide +kernel) rfl wmL_35 wi_yX7_open ws_yX7_open wc_yX7_open (by decide) (by decide) (by omega) (by omega) (cv_dec dkL_law2 23 (335, .invokevirtual 35, 3) rfl) (Nat.le_of_ble_eq_true rfl) rfl (fun v w hv => ?_) H locs hP hM hS
  obtain ⟨rfl, hw⟩ := hv
  intro H locs hP hM hS
  exact lv_icmp_eq (tgt := 1132) hx hb (cv_dec dkL_law2 24 (338, .if_icmp .eq 794, 3) rfl) (by decide) (fun _ => K u w (h3 u w hu hw) _ _ (by omega) (by omega) H locs hP hM hS) (fun hne => absurd rfl hne)
set_option maxHeartbeats 4000000 in
set_option maxRecDepth 100000 in
theorem cv_c_soonest {p : Program} {l : Launch} {e : Env} {s : State} {m : MethodId} {below : List Frame} {meth : Method} {c : Code} {b L : Nat} {xs : Nat → Int32} {D : va_G} {cA : Nat → ClassId} {a ab : Nat → Nat} {σ μ : cv_St} {ls : Array Slot} {cells slots i : Nat} (X : cv_LX p s m meth c b L xs D cA a ab) (hl : lv_has ls 4 [(3, .int (nI i)), (0, .ref b), (1, .ref (a 0)), (2, .ref (ab 0))]) (hi : i + 7 ≤ L) (hI : cv_I σ μ) (hc : cells + 1 ≤ 600000) (hs : slots + 3 ≤ 7302250) (K : ∀ u w, cv_I u w → ∀ cells' slots', cells' ≤ cells + 1 → slots' ≤ slots + 3 → cv_LA p l e s m below meth c b D cA a ab u w ls cells' slots' 1132 []) : cv_LA p l e s m below meth c b D cA a ab σ μ ls cells slots 343 [] := by
  obtain ⟨x, P1, P2, h1, h2, h3⟩ := cv_p_soonest (xs (i + 1)) hI
  obtain ⟨hx, hb, hr, hml, hown, hts0, hX, hbl, hlocks, hgv⟩ := X.1
  have hL := X.2.1
  intro H locs hP hM hS
  refine lv_aload_n hx hb (cv_dec dkL_law2 27 (343, .aload_n 1, 1) rfl) rfl (lv_at hl 2 rfl) ?_
  refine cv_larg hx hb hX hbl hS (lv_at hl 1 rfl) (lv_at hl 0 rfl) (k := 1) (by omega) hL (by decide) (cv_dec dkL_law2 28 (344, .aload_n 0, 1) rfl) (cv_dec dkL_law2 29 (345, .iload_n 3, 1) rfl) (cv_dec dkL_law2 30 (346, .iconst 1, 1) rfl) (cv_dec dkL_law2 31 (347, .iadd, 1) rfl) (cv_dec dkL_law2 32 (348, .iaload, 1) rfl) ?_
  refine cv_lcC X hl.1 (As := [.int (xs (i + 1))]) (np := 1) (rest := []) h1 rfl (by decide +kernel) rfl wmL_36 wi_yX6_soonest ws_yX6_soonest wc_yX6_soonest (by decide) (by decide) (by omega) (by omega) (cv_dec dkL_law2 33 (349, .invokevirtual 36, 3) rfl) (Nat.le_of_ble_eq_true rfl) rfl (fun v u hv => ?_) H locs hP hM hS
  obtain ⟨rfl, hu⟩ := hv
  intro H locs hP hM hS
  refine lv_aload_n hx hb (cv_dec dkL_law2 34 (352, .aload_n 2, 1) rfl) rfl (lv_at hl 3 rfl) ?_
  refine cv_larg hx hb hX hbl hS (lv_at hl 1 rfl) (lv_at hl 0 rfl) (k := 1) (by omega) hL (by decide) (cv_dec dkL_law2 35 (353, .aload_n 0, 1) rfl) (cv_dec dkL_law2 36 (354, .iload_n 3, 1) rfl) (cv_dec dkL_law2 37 (355, .iconst 1, 1) rfl) (cv_dec dkL_law2 38 (356, .iadd, 1) rfl) (cv_dec dkL_law2 39 (357, .iaload, 1) rfl) ?_
  refine cv_lcM X hl.1 (As := [.int (xs (i + 1))]) (np := 1) (rest := [.int x]) h2 rfl (by decide +kernel) rfl wmL_39 wi_yX7_soonest ws_yX7_soonest wc_yX7_soonest (by decide) (by decide) (by omega) (by omega) (cv_dec dkL_law2 40 (358, .invokevirtual 39, 3) rfl) (Nat.le_of_ble_eq_true rfl) rfl (fun v w hv => ?_) H locs hP hM hS
  obtain ⟨rfl, hw⟩ := hv
  intro H locs hP hM hS
  exact lv_icmp_eq (tgt := 1132) hx hb (cv_dec dkL_law2 41 (361, .if_icmp .eq 771, 3) rfl) (by decide) (fun _ => K u w (h3 u w hu hw) _ _ (by omega) (by omega) H locs hP hM hS) (fun hne => absurd rfl hne)
set_option maxHeartbeats 4000000 in
set_option maxRecDepth 100000 in
theorem cv_c_holes {p : Program} {l : Launch} {e : Env} {s : State} {m : MethodId} {below : List Frame} {meth : Method} {c : Code} {b L : Nat} {xs : Nat → Int32} {D : va_G} {cA : Nat → ClassId} {a ab : Nat → Nat} {σ μ : cv_St} {ls : Array Slot} {cells slots i : Nat} (X : cv_LX p s m meth c b L xs D cA a ab) (hl : lv_has ls 4 [(3, .int (nI i)), (0, .ref b), (1, .ref (a 0)), (2, .ref (ab 0))]) (hi : i + 7 ≤ L) (hI : cv_I σ μ) (hc : cells + 1 ≤ 600000) (hs : slots + 3 ≤ 7302250) (K : ∀ u w, cv_I u w → ∀ cells' slots', cells' ≤ cells + 1 → slots' ≤ slots + 3 → cv_LA p l e s m below meth c b D cA a ab u w ls cells' slots' 1132 []) : cv_LA p l e s m below meth c b D cA a ab σ μ ls cells slots 366 [] := by
  obtain ⟨x, P1, P2, h1, h2, h3⟩ := cv_p_holes (xs (i + 1)) hI
  obtain ⟨hx, hb, hr, hml, hown, hts0, hX, hbl, hlocks, hgv⟩ := X.1
  have hL := X.2.1
  intro H locs hP hM hS
  refine lv_aload_n hx hb (cv_dec dkL_law2 44 (366, .aload_n 1, 1) rfl) rfl (lv_at hl 2 rfl) ?_
  refine cv_larg hx hb hX hbl hS (lv_at hl 1 rfl) (lv_at hl 0 rfl) (k := 1) (by omega) hL (by decide) (cv_dec dkL_law2 45 (367, .aload_n 0, 1) rfl) (cv_dec dkL_law2 46 (368, .iload_n 3, 1) rfl) (cv_dec dkL_law2 47 (369, .iconst 1, 1) rfl) (cv_dec dkL_law2 48 (370, .iadd, 1) rfl) (cv_dec dkL_law2 49 (371, .iaload, 1) rfl) ?_
  refine cv_lcC X hl.1 (As := [.int (xs (i + 1))]) (np := 1) (rest := []) h1 rfl (by decide +kernel) rfl wmL_40 wi_yX6_holes ws_yX6_holes wc_yX6_holes (by decide) (by decide) (by omega) (by omega) (cv_dec dkL_law2 50 (372, .invokevirtual 40, 3) rfl) (Nat.le_of_ble_eq_true rfl) rfl (fun v u hv => ?_) H locs hP hM hS
  obtain ⟨rfl, hu⟩ := hv
  intro H locs hP hM hS
  refine lv_aload_n hx hb (cv_dec dkL_law2 51 (375, .aload_n 2, 1) rfl) rfl (lv_at hl 3 rfl) ?_
  refine cv_larg hx hb hX hbl hS (lv_at hl 1 rfl) (lv_at hl 0 rfl) (k := 1) (by omega) hL (by decide) (cv_dec dkL_law2 52 (376, .aload_n 0, 1) rfl) (cv_dec dkL_law2 53 (377, .iload_n 3, 1) rfl) (cv_dec dkL_law2 54 (378, .iconst 1, 1) rfl) (cv_dec dkL_law2 55 (379, .iadd, 1) rfl) (cv_dec dkL_law2 56 (380, .iaload, 1) rfl) ?_
  refine cv_lcM X hl.1 (As := [.int (xs (i + 1))]) (np := 1) (rest := [.int x]) h2 rfl (by decide +kernel) rfl wmL_43 wi_yX7_holes ws_yX7_holes wc_yX7_holes (by decide) (by decide) (by omega) (by omega) (cv_dec dkL_law2 57 (381, .invokevirtual 43, 3) rfl) (Nat.le_of_ble_eq_true rfl) rfl (fun v w hv => ?_) H locs hP hM hS
  obtain ⟨rfl, hw⟩ := hv
  intro H locs hP hM hS
  exact lv_icmp_eq (tgt := 1132) hx hb (cv_dec dkL_law2 58 (384, .if_icmp .eq 748, 3) rfl) (by decide) (fun _ => K u w (h3 u w hu hw) _ _ (by omega) (by omega) H locs hP hM hS) (fun hne => absurd rfl hne)
set_option maxHeartbeats 4000000 in
set_option maxRecDepth 100000 in
theorem cv_c_way {p : Program} {l : Launch} {e : Env} {s : State} {m : MethodId} {below : List Frame} {meth : Method} {c : Code} {b L : Nat} {xs : Nat → Int32} {D : va_G} {cA : Nat → ClassId} {a ab : Nat → Nat} {σ μ : cv_St} {ls : Array Slot} {cells slots i : Nat} (X : cv_LX p s m meth c b L xs D cA a ab) (hl : lv_has ls 4 [(3, .int (nI i)), (0, .ref b), (1, .ref (a 0)), (2, .ref (ab 0))]) (hi : i + 7 ≤ L) (hI : cv_I σ μ) (hc : cells + 1 ≤ 600000) (hs : slots + 3 ≤ 7302250) (K : ∀ u w, cv_I u w → ∀ cells' slots', cells' ≤ cells + 1 → slots' ≤ slots + 3 → cv_LA p l e s m below meth c b D cA a ab u w ls cells' slots' 1132 []) : cv_LA p l e s m below meth c b D cA a ab σ μ ls cells slots 389 [] := by
  obtain ⟨x, P1, P2, h1, h2, h3⟩ := cv_p_way (xs (i + 1)) (xs (i + 2)) (xs (i + 3)) (xs (i + 4)) (xs (i + 5)) (xs (i + 6)) hI
  obtain ⟨hx, hb, hr, hml, hown, hts0, hX, hbl, hlocks, hgv⟩ := X.1
  have hL := X.2.1
  intro H locs hP hM hS
  refine lv_aload_n hx hb (cv_dec dkL_law2 61 (389, .aload_n 1, 1) rfl) rfl (lv_at hl 2 rfl) ?_
  refine cv_larg hx hb hX hbl hS (lv_at hl 1 rfl) (lv_at hl 0 rfl) (k := 1) (by omega) hL (by decide) (cv_dec dkL_law2 62 (390, .aload_n 0, 1) rfl) (cv_dec dkL_law2 63 (391, .iload_n 3, 1) rfl) (cv_dec dkL_law2 64 (392, .iconst 1, 1) rfl) (cv_dec dkL_law2 65 (393, .iadd, 1) rfl) (cv_dec dkL_law2 66 (394, .iaload, 1) rfl) ?_
  refine cv_larg hx hb hX hbl hS (lv_at hl 1 rfl) (lv_at hl 0 rfl) (k := 2) (by omega) hL (by decide) (cv_dec dkL_law2 67 (395, .aload_n 0, 1) rfl) (cv_dec dkL_law2 68 (396, .iload_n 3, 1) rfl) (cv_dec dkL_law2 69 (397, .iconst 2, 1) rfl) (cv_dec dkL_law3 0 (398, .iadd, 1) rfl) (cv_dec dkL_law3 1 (399, .iaload, 1) rfl) ?_
  refine cv_larg hx hb hX hbl hS (lv_at hl 1 rfl) (lv_at hl 0 rfl) (k := 3) (by omega) hL (by decide) (cv_dec dkL_law3 2 (400, .aload_n 0, 1) rfl) (cv_dec dkL_law3 3 (401, .iload_n 3, 1) rfl) (cv_dec dkL_law3 4 (402, .iconst 3, 1) rfl) (cv_dec dkL_law3 5 (403, .iadd, 1) rfl) (cv_dec dkL_law3 6 (404, .iaload, 1) rfl) ?_
  refine cv_larg hx hb hX hbl hS (lv_at hl 1 rfl) (lv_at hl 0 rfl) (k := 4) (by omega) hL (by decide) (cv_dec dkL_law3 7 (405, .aload_n 0, 1) rfl) (cv_dec dkL_law3 8 (406, .iload_n 3, 1) rfl) (cv_dec dkL_law3 9 (407, .iconst 4, 1) rfl) (cv_dec dkL_law3 10 (408, .iadd, 1) rfl) (cv_dec dkL_law3 11 (409, .iaload, 1) rfl) ?_
  refine cv_larg hx hb hX hbl hS (lv_at hl 1 rfl) (lv_at hl 0 rfl) (k := 5) (by omega) hL (by decide) (cv_dec dkL_law3 12 (410, .aload_n 0, 1) rfl) (cv_dec dkL_law3 13 (411, .iload_n 3, 1) rfl) (cv_dec dkL_law3 14 (412, .iconst 5, 1) rfl) (cv_dec dkL_law3 15 (413, .iadd, 1) rfl) (cv_dec dkL_law3 16 (414, .iaload, 1) rfl) ?_
  refine cv_larg6 hx hb hX hbl hS (lv_at hl 1 rfl) (lv_at hl 0 rfl) (k := 6) (by omega) hL (by decide) (cv_dec dkL_law3 17 (415, .aload_n 0, 1) rfl) (cv_dec dkL_law3 18 (416, .iload_n 3, 1) rfl) (cv_dec dkL_law3 19 (417, .bipush 6, 2) rfl) (cv_dec dkL_law3 20 (419, .iadd, 1) rfl) (cv_dec dkL_law3 21 (420, .iaload, 1) rfl) ?_
  refine cv_lcC X hl.1 (As := [.int (xs (i + 1)), .int (xs (i + 2)), .int (xs (i + 3)), .int (xs (i + 4)), .int (xs (i + 5)), .int (xs (i + 6))]) (np := 6) (rest := []) h1 rfl (by decide +kernel) rfl wmL_44 wi_yX6_way ws_yX6_way wc_yX6_way (by decide) (by decide) (by omega) (by omega) (cv_dec dkL_law3 22 (421, .invokevirtual 44, 3) rfl) (Nat.le_of_ble_eq_true rfl) rfl (fun v u hv => ?_) H locs hP hM hS
  obtain ⟨rfl, hu⟩ := hv
  intro H locs hP hM hS
  refine lv_aload_n hx hb (cv_dec dkL_law3 23 (424, .aload_n 2, 1) rfl) rfl (lv_at hl 3 rfl) ?_
  refine cv_larg hx hb hX hbl hS (lv_at hl 1 rfl) (lv_at hl 0 rfl) (k := 1) (by omega) hL (by decide) (cv_dec dkL_law3 24 (425, .aload_n 0, 1) rfl) (cv_dec dkL_law3 25 (426, .iload_n 3, 1) rfl) (cv_dec dkL_law3 26 (427, .iconst 1, 1) rfl) (cv_dec dkL_law3 27 (428, .iadd, 1) rfl) (cv_dec dkL_law3 28 (429, .iaload, 1) rfl) ?_
  refine cv_larg hx hb hX hbl hS (lv_at hl 1 rfl) (lv_at hl 0 rfl) (k := 2) (by omega) hL (by decide) (cv_dec dkL_law3 29 (430, .aload_n 0, 1) rfl) (cv_dec dkL_law3 30 (431, .iload_n 3, 1) rfl) (cv_dec dkL_law3 31 (432, .iconst 2, 1) rfl) (cv_dec dkL_law3 32 (433, .iadd, 1) rfl) (cv_dec dkL_law3 33 (434, .iaload, 1) rfl) ?_
  refine cv_larg hx hb hX hbl hS (lv_at hl 1 rfl) (lv_at hl 0 rfl) (k := 3) (by omega) hL (by decide) (cv_dec dkL_law3 34 (435, .aload_n 0, 1) rfl) (cv_dec dkL_law3 35 (436, .iload_n 3, 1) rfl) (cv_dec dkL_law3 36 (437, .iconst 3, 1) rfl) (cv_dec dkL_law3 37 (438, .iadd, 1) rfl) (cv_dec dkL_law3 38 (439, .iaload, 1) rfl) ?_
  refine cv_larg hx hb hX hbl hS (lv_at hl 1 rfl) (lv_at hl 0 rfl) (k := 4) (by omega) hL (by decide) (cv_dec dkL_law3 39 (440, .aload_n 0, 1) rfl) (cv_dec dkL_law3 40 (441, .iload_n 3, 1) rfl) (cv_dec dkL_law3 41 (442, .iconst 4, 1) rfl) (cv_dec dkL_law3 42 (443, .iadd, 1) rfl) (cv_dec dkL_law3 43 (444, .iaload, 1) rfl) ?_
  refine cv_larg hx hb hX hbl hS (lv_at hl 1 rfl) (lv_at hl 0 rfl) (k := 5) (by omega) hL (by decide) (cv_dec dkL_law3 44 (445, .aload_n 0, 1) rfl) (cv_dec dkL_law3 45 (446, .iload_n 3, 1) rfl) (cv_dec dkL_law3 46 (447, .iconst 5, 1) rfl) (cv_dec dkL_law3 47 (448, .iadd, 1) rfl) (cv_dec dkL_law3 48 (449, .iaload, 1) rfl) ?_
  refine cv_larg6 hx hb hX hbl hS (lv_at hl 1 rfl) (lv_at hl 0 rfl) (k := 6) (by omega) hL (by decide) (cv_dec dkL_law3 49 (450, .aload_n 0, 1) rfl) (cv_dec dkL_law3 50 (451, .iload_n 3, 1) rfl) (cv_dec dkL_law3 51 (452, .bipush 6, 2) rfl) (cv_dec dkL_law3 52 (454, .iadd, 1) rfl) (cv_dec dkL_law3 53 (455, .iaload, 1) rfl) ?_
  refine cv_lcM X hl.1 (As := [.int (xs (i + 1)), .int (xs (i + 2)), .int (xs (i + 3)), .int (xs (i + 4)), .int (xs (i + 5)), .int (xs (i + 6))]) (np := 6) (rest := [.int x]) h2 rfl (by decide +kernel) rfl wmL_48 wi_yX7_way ws_yX7_way wc_yX7_way (by decide) (by decide) (by omega) (by omega) (cv_dec dkL_law3 54 (456, .invokevirtual 48, 3) rfl) (Nat.le_of_ble_eq_true rfl) rfl (fun v w hv => ?_) H locs hP hM hS
  obtain ⟨rfl, hw⟩ := hv
  intro H locs hP hM hS
  exact lv_icmp_eq (tgt := 1132) hx hb (cv_dec dkL_law3 55 (459, .if_icmp .eq 673, 3) rfl) (by decide) (fun _ => K u w (h3 u w hu hw) _ _ (by omega) (by omega) H locs hP hM hS) (fun hne => absurd rfl hne)
set_option maxHeartbeats 4000000 in
set_option maxRecDepth 100000 in
theorem cv_c_last {p : Program} {l : Launch} {e : Env} {s : State} {m : MethodId} {below : List Frame} {meth : Method} {c : Code} {b L : Nat} {xs : Nat → Int32} {D : va_G} {cA : Nat → ClassId} {a ab : Nat → Nat} {σ μ : cv_St} {ls : Array Slot} {cells slots i : Nat} (X : cv_LX p s m meth c b L xs D cA a ab) (hl : lv_has ls 4 [(3, .int (nI i)), (0, .ref b), (1, .ref (a 0)), (2, .ref (ab 0))]) (hi : i + 7 ≤ L) (hI : cv_I σ μ) (hc : cells + 1 ≤ 600000) (hs : slots + 3 ≤ 7302250) (K : ∀ u w, cv_I u w → ∀ cells' slots', cells' ≤ cells + 1 → slots' ≤ slots + 3 → cv_LA p l e s m below meth c b D cA a ab u w ls cells' slots' 1132 []) : cv_LA p l e s m below meth c b D cA a ab σ μ ls cells slots 464 [] := by
  obtain ⟨x, P1, P2, h1, h2, h3⟩ := cv_p_last (xs (i + 1)) hI
  obtain ⟨hx, hb, hr, hml, hown, hts0, hX, hbl, hlocks, hgv⟩ := X.1
  have hL := X.2.1
  intro H locs hP hM hS
  refine lv_aload_n hx hb (cv_dec dkL_law3 58 (464, .aload_n 1, 1) rfl) rfl (lv_at hl 2 rfl) ?_
  refine cv_larg hx hb hX hbl hS (lv_at hl 1 rfl) (lv_at hl 0 rfl) (k := 1) (by omega) hL (by decide) (cv_dec dkL_law3 59 (465, .aload_n 0, 1) rfl) (cv_dec dkL_law3 60 (466, .iload_n 3, 1) rfl) (cv_dec dkL_law3 61 (467, .iconst 1, 1) rfl) (cv_dec dkL_law3 62 (468, .iadd, 1) rfl) (cv_dec dkL_law3 63 (469, .iaload, 1) rfl) ?_
  refine cv_lcC X hl.1 (As := [.int (xs (i + 1))]) (np := 1) (rest := []) h1 rfl (by decide +kernel) rfl wmL_49 wi_yX6_last ws_yX6_last wc_yX6_last (by decide) (by decide) (by omega) (by omega) (cv_dec dkL_law3 64 (470, .invokevirtual 49, 3) rfl) (Nat.le_of_ble_eq_true rfl) rfl (fun v u hv => ?_) H locs hP hM hS
  obtain ⟨rfl, hu⟩ := hv
  intro H locs hP hM hS
  refine lv_aload_n hx hb (cv_dec dkL_law3 65 (473, .aload_n 2, 1) rfl) rfl (lv_at hl 3 rfl) ?_
  refine cv_larg hx hb hX hbl hS (lv_at hl 1 rfl) (lv_at hl 0 rfl) (k := 1) (by omega) hL (by decide) (cv_dec dkL_law3 66 (474, .aload_n 0, 1) rfl) (cv_dec dkL_law3 67 (475, .iload_n 3, 1) rfl) (cv_dec dkL_law3 68 (476, .iconst 1, 1) rfl) (cv_dec dkL_law3 69 (477, .iadd, 1) rfl) (cv_dec dkL_law4 0 (478, .iaload, 1) rfl) ?_
  refine cv_lcM X hl.1 (As := [.int (xs (i + 1))]) (np := 1) (rest := [.int x]) h2 rfl (by decide +kernel) rfl wmL_52 wi_yX7_last ws_yX7_last wc_yX7_last (by decide) (by decide) (by omega) (by omega) (cv_dec dkL_law4 1 (479, .invokevirtual 52, 3) rfl) (Nat.le_of_ble_eq_true rfl) rfl (fun v w hv => ?_) H locs hP hM hS
  obtain ⟨rfl, hw⟩ := hv
  intro H locs hP hM hS
  exact lv_icmp_eq (tgt := 1132) hx hb (cv_dec dkL_law4 2 (482, .if_icmp .eq 650, 3) rfl) (by decide) (fun _ => K u w (h3 u w hu hw) _ _ (by omega) (by omega) H locs hP hM hS) (fun hne => absurd rfl hne)
set_option maxHeartbeats 4000000 in
set_option maxRecDepth 100000 in
theorem cv_c_safe {p : Program} {l : Launch} {e : Env} {s : State} {m : MethodId} {below : List Frame} {meth : Method} {c : Code} {b L : Nat} {xs : Nat → Int32} {D : va_G} {cA : Nat → ClassId} {a ab : Nat → Nat} {σ μ : cv_St} {ls : Array Slot} {cells slots i : Nat} (X : cv_LX p s m meth c b L xs D cA a ab) (hl : lv_has ls 4 [(3, .int (nI i)), (0, .ref b), (1, .ref (a 0)), (2, .ref (ab 0))]) (hi : i + 7 ≤ L) (hI : cv_I σ μ) (hc : cells + 1 ≤ 600000) (hs : slots + 3 ≤ 7302250) (K : ∀ u w, cv_I u w → ∀ cells' slots', cells' ≤ cells + 1 → slots' ≤ slots + 3 → cv_LA p l e s m below meth c b D cA a ab u w ls cells' slots' 1132 []) : cv_LA p l e s m below meth c b D cA a ab σ μ ls cells slots 487 [] := by
  obtain ⟨x, P1, P2, h1, h2, h3⟩ := cv_p_safe (xs (i + 1)) hI
  obtain ⟨hx, hb, hr, hml, hown, hts0, hX, hbl, hlocks, hgv⟩ := X.1
  have hL := X.2.1
  intro H locs hP hM hS
  refine lv_aload_n hx hb (cv_dec dkL_law4 5 (487, .aload_n 1, 1) rfl) rfl (lv_at hl 2 rfl) ?_
  refine cv_larg hx hb hX hbl hS (lv_at hl 1 rfl) (lv_at hl 0 rfl) (k := 1) (by omega) hL (by decide) (cv_dec dkL_law4 6 (488, .aload_n 0, 1) rfl) (cv_dec dkL_law4 7 (489, .iload_n 3, 1) rfl) (cv_dec dkL_law4 8 (490, .iconst 1, 1) rfl) (cv_dec dkL_law4 9 (491, .iadd, 1) rfl) (cv_dec dkL_law4 10 (492, .iaload, 1) rfl) ?_
  refine cv_lcC X hl.1 (As := [.int (xs (i + 1))]) (np := 1) (rest := []) h1 rfl (by decide +kernel) rfl wmL_53 wi_yX6_safe ws_yX6_safe wc_yX6_safe (by decide) (by decide) (by omega) (by omega) (cv_dec dkL_law4 11 (493, .invokevirtual 53, 3) rfl) (Nat.le_of_ble_eq_true rfl) rfl (fun v u hv => ?_) H locs hP hM hS
  obtain ⟨rfl, hu⟩ := hv
  intro H locs hP hM hS
  refine lv_aload_n hx hb (cv_dec dkL_law4 12 (496, .aload_n 2, 1) rfl) rfl (lv_at hl 3 rfl) ?_
  refine cv_larg hx hb hX hbl hS (lv_at hl 1 rfl) (lv_at hl 0 rfl) (k := 1) (by omega) hL (by decide) (cv_dec dkL_law4 13 (497, .aload_n 0, 1) rfl) (cv_dec dkL_law4 14 (498, .iload_n 3, 1) rfl) (cv_dec dkL_law4 15 (499, .iconst 1, 1) rfl) (cv_dec dkL_law4 16 (500, .iadd, 1) rfl) (cv_dec dkL_law4 17 (501, .iaload, 1) rfl) ?_
  refine cv_lcM X hl.1 (As := [.int (xs (i + 1))]) (np := 1) (rest := [.int x]) h2 rfl (by decide +kernel) rfl wmL_56 wi_yX7_safe ws_yX7_safe wc_yX7_safe (by decide) (by decide) (by omega) (by omega) (cv_dec dkL_law4 18 (502, .invokevirtual 56, 3) rfl) (Nat.le_of_ble_eq_true rfl) rfl (fun v w hv => ?_) H locs hP hM hS
  obtain ⟨rfl, hw⟩ := hv
  intro H locs hP hM hS
  exact lv_icmp_eq (tgt := 1132) hx hb (cv_dec dkL_law4 19 (505, .if_icmp .eq 627, 3) rfl) (by decide) (fun _ => K u w (h3 u w hu hw) _ _ (by omega) (by omega) H locs hP hM hS) (fun hne => absurd rfl hne)
set_option maxHeartbeats 4000000 in
set_option maxRecDepth 100000 in
theorem cv_c_hangs {p : Program} {l : Launch} {e : Env} {s : State} {m : MethodId} {below : List Frame} {meth : Method} {c : Code} {b L : Nat} {xs : Nat → Int32} {D : va_G} {cA : Nat → ClassId} {a ab : Nat → Nat} {σ μ : cv_St} {ls : Array Slot} {cells slots i : Nat} (X : cv_LX p s m meth c b L xs D cA a ab) (hl : lv_has ls 4 [(3, .int (nI i)), (0, .ref b), (1, .ref (a 0)), (2, .ref (ab 0))]) (hi : i + 7 ≤ L) (hI : cv_I σ μ) (hc : cells + 1 ≤ 600000) (hs : slots + 3 ≤ 7302250) (K : ∀ u w, cv_I u w → ∀ cells' slots', cells' ≤ cells + 1 → slots' ≤ slots + 3 → cv_LA p l e s m below meth c b D cA a ab u w ls cells' slots' 1132 []) : cv_LA p l e s m below meth c b D cA a ab σ μ ls cells slots 510 [] := by
  obtain ⟨x, P1, P2, h1, h2, h3⟩ := cv_p_hangs (xs (i + 1)) (xs (i + 2)) hI
  obtain ⟨hx, hb, hr, hml, hown, hts0, hX, hbl, hlocks, hgv⟩ := X.1
  have hL := X.2.1
  intro H locs hP hM hS
  refine lv_aload_n hx hb (cv_dec dkL_law4 22 (510, .aload_n 1, 1) rfl) rfl (lv_at hl 2 rfl) ?_
  refine cv_larg hx hb hX hbl hS (lv_at hl 1 rfl) (lv_at hl 0 rfl) (k := 1) (by omega) hL (by decide) (cv_dec dkL_law4 23 (511, .aload_n 0, 1) rfl) (cv_dec dkL_law4 24 (512, .iload_n 3, 1) rfl) (cv_dec dkL_law4 25 (513, .iconst 1, 1) rfl) (cv_dec dkL_law4 26 (514, .iadd, 1) rfl) (cv_dec dkL_law4 27 (515, .iaload, 1) rfl) ?_
  refine cv_larg hx hb hX hbl hS (lv_at hl 1 rfl) (lv_at hl 0 rfl) (k := 2) (by omega) hL (by decide) (cv_dec dkL_law4 28 (516, .aload_n 0, 1) rfl) (cv_dec dkL_law4 29 (517, .iload_n 3, 1) rfl) (cv_dec dkL_law4 30 (518, .iconst 2, 1) rfl) (cv_dec dkL_law4 31 (519, .iadd, 1) rfl) (cv_dec dkL_law4 32 (520, .iaload, 1) rfl) ?_
  refine cv_lcC X hl.1 (As := [.int (xs (i + 1)), .int (xs (i + 2))]) (np := 2) (rest := []) h1 rfl (by decide +kernel) rfl wmL_57 wi_yX6_hangs ws_yX6_hangs wc_yX6_hangs (by decide) (by decide) (by omega) (by omega) (cv_dec dkL_law4 33 (521, .invokevirtual 57, 3) rfl) (Nat.le_of_ble_eq_true rfl) rfl (fun v u hv => ?_) H locs hP hM hS
  obtain ⟨rfl, hu⟩ := hv
  intro H locs hP hM hS
  refine lv_aload_n hx hb (cv_dec dkL_law4 34 (524, .aload_n 2, 1) rfl) rfl (lv_at hl 3 rfl) ?_
  refine cv_larg hx hb hX hbl hS (lv_at hl 1 rfl) (lv_at hl 0 rfl) (k := 1) (by omega) hL (by decide) (cv_dec dkL_law4 35 (525, .aload_n 0, 1) rfl) (cv_dec dkL_law4 36 (526, .iload_n 3, 1) rfl) (cv_dec dkL_law4 37 (527, .iconst 1, 1) rfl) (cv_dec dkL_law4 38 (528, .iadd, 1) rfl) (cv_dec dkL_law4 39 (529, .iaload, 1) rfl) ?_
  refine cv_larg hx hb hX hbl hS (lv_at hl 1 rfl) (lv_at hl 0 rfl) (k := 2) (by omega) hL (by decide) (cv_dec dkL_law4 40 (530, .aload_n 0, 1) rfl) (cv_dec dkL_law4 41 (531, .iload_n 3, 1) rfl) (cv_dec dkL_law4 42 (532, .iconst 2, 1) rfl) (cv_dec dkL_law4 43 (533, .iadd, 1) rfl) (cv_dec dkL_law4 44 (534, .iaload, 1) rfl) ?_
  refine cv_lcM X hl.1 (As := [.int (xs (i + 1)), .int (xs (i + 2))]) (np := 2) (rest := [.int x]) h2 rfl (by decide +kernel) rfl wmL_60 wi_yX7_hangs ws_yX7_hangs wc_yX7_hangs (by decide) (by decide) (by omega) (by omega) (cv_dec dkL_law4 45 (535, .invokevirtual 60, 3) rfl) (Nat.le_of_ble_eq_true rfl) rfl (fun v w hv => ?_) H locs hP hM hS
  obtain ⟨rfl, hw⟩ := hv
  intro H locs hP hM hS
  exact lv_icmp_eq (tgt := 1132) hx hb (cv_dec dkL_law4 46 (538, .if_icmp .eq 594, 3) rfl) (by decide) (fun _ => K u w (h3 u w hu hw) _ _ (by omega) (by omega) H locs hP hM hS) (fun hne => absurd rfl hne)
set_option maxHeartbeats 4000000 in
set_option maxRecDepth 100000 in
theorem cv_c_peace {p : Program} {l : Launch} {e : Env} {s : State} {m : MethodId} {below : List Frame} {meth : Method} {c : Code} {b L : Nat} {xs : Nat → Int32} {D : va_G} {cA : Nat → ClassId} {a ab : Nat → Nat} {σ μ : cv_St} {ls : Array Slot} {cells slots i : Nat} (X : cv_LX p s m meth c b L xs D cA a ab) (hl : lv_has ls 4 [(3, .int (nI i)), (0, .ref b), (1, .ref (a 0)), (2, .ref (ab 0))]) (hi : i + 7 ≤ L) (hI : cv_I σ μ) (hc : cells + 1 ≤ 600000) (hs : slots + 3 ≤ 7302250) (K : ∀ u w, cv_I u w → ∀ cells' slots', cells' ≤ cells + 1 → slots' ≤ slots + 3 → cv_LA p l e s m below meth c b D cA a ab u w ls cells' slots' 1132 []) : cv_LA p l e s m below meth c b D cA a ab σ μ ls cells slots 543 [] := by
  obtain ⟨x, P1, P2, h1, h2, h3⟩ := cv_p_peace (xs (i + 1)) (xs (i + 2)) hI
  obtain ⟨hx, hb, hr, hml, hown, hts0, hX, hbl, hlocks, hgv⟩ := X.1
  have hL := X.2.1
  intro H locs hP hM hS
  refine lv_aload_n hx hb (cv_dec dkL_law4 49 (543, .aload_n 1, 1) rfl) rfl (lv_at hl 2 rfl) ?_
  refine cv_larg hx hb hX hbl hS (lv_at hl 1 rfl) (lv_at hl 0 rfl) (k := 1) (by omega) hL (by decide) (cv_dec dkL_law4 50 (544, .aload_n 0, 1) rfl) (cv_dec dkL_law4 51 (545, .iload_n 3, 1) rfl) (cv_dec dkL_law4 52 (546, .iconst 1, 1) rfl) (cv_dec dkL_law4 53 (547, .iadd, 1) rfl) (cv_dec dkL_law4 54 (548, .iaload, 1) rfl) ?_
  refine cv_larg hx hb hX hbl hS (lv_at hl 1 rfl) (lv_at hl 0 rfl) (k := 2) (by omega) hL (by decide) (cv_dec dkL_law4 55 (549, .aload_n 0, 1) rfl) (cv_dec dkL_law4 56 (550, .iload_n 3, 1) rfl) (cv_dec dkL_law4 57 (551, .iconst 2, 1) rfl) (cv_dec dkL_law4 58 (552, .iadd, 1) rfl) (cv_dec dkL_law4 59 (553, .iaload, 1) rfl) ?_
  refine cv_lcC X hl.1 (As := [.int (xs (i + 1)), .int (xs (i + 2))]) (np := 2) (rest := []) h1 rfl (by decide +kernel) rfl wmL_61 wi_yX6_peace ws_yX6_peace wc_yX6_peace (by decide) (by decide) (by omega) (by omega) (cv_dec dkL_law4 60 (554, .invokevirtual 61, 3) rfl) (Nat.le_of_ble_eq_true rfl) rfl (fun v u hv => ?_) H locs hP hM hS
  obtain ⟨rfl, hu⟩ := hv
  intro H locs hP hM hS
  refine lv_aload_n hx hb (cv_dec dkL_law4 61 (557, .aload_n 2, 1) rfl) rfl (lv_at hl 3 rfl) ?_
  refine cv_larg hx hb hX hbl hS (lv_at hl 1 rfl) (lv_at hl 0 rfl) (k := 1) (by omega) hL (by decide) (cv_dec dkL_law4 62 (558, .aload_n 0, 1) rfl) (cv_dec dkL_law4 63 (559, .iload_n 3, 1) rfl) (cv_dec dkL_law4 64 (560, .iconst 1, 1) rfl) (cv_dec dkL_law4 65 (561, .iadd, 1) rfl) (cv_dec dkL_law4 66 (562, .iaload, 1) rfl) ?_
  refine cv_larg hx hb hX hbl hS (lv_at hl 1 rfl) (lv_at hl 0 rfl) (k := 2) (by omega) hL (by decide) (cv_dec dkL_law4 67 (563, .aload_n 0, 1) rfl) (cv_dec dkL_law4 68 (564, .iload_n 3, 1) rfl) (cv_dec dkL_law4 69 (565, .iconst 2, 1) rfl) (cv_dec dkL_law5 0 (566, .iadd, 1) rfl) (cv_dec dkL_law5 1 (567, .iaload, 1) rfl) ?_
  refine cv_lcM X hl.1 (As := [.int (xs (i + 1)), .int (xs (i + 2))]) (np := 2) (rest := [.int x]) h2 rfl (by decide +kernel) rfl wmL_64 wi_yX7_peace ws_yX7_peace wc_yX7_peace (by decide) (by decide) (by omega) (by omega) (cv_dec dkL_law5 2 (568, .invokevirtual 64, 3) rfl) (Nat.le_of_ble_eq_true rfl) rfl (fun v w hv => ?_) H locs hP hM hS
  obtain ⟨rfl, hw⟩ := hv
  intro H locs hP hM hS
  exact lv_icmp_eq (tgt := 1132) hx hb (cv_dec dkL_law5 3 (571, .if_icmp .eq 561, 3) rfl) (by decide) (fun _ => K u w (h3 u w hu hw) _ _ (by omega) (by omega) H locs hP hM hS) (fun hne => absurd rfl hne)
set_option maxHeartbeats 4000000 in
set_option maxRecDepth 100000 in
theorem cv_c_reading {p : Program} {l : Launch} {e : Env} {s : State} {m : MethodId} {below : List Frame} {meth : Method} {c : Code} {b L : Nat} {xs : Nat → Int32} {D : va_G} {cA : Nat → ClassId} {a ab : Nat → Nat} {σ μ : cv_St} {ls : Array Slot} {cells slots i : Nat} (X : cv_LX p s m meth c b L xs D cA a ab) (hl : lv_has ls 4 [(3, .int (nI i)), (0, .ref b), (1, .ref (a 0)), (2, .ref (ab 0))]) (hi : i + 7 ≤ L) (hI : cv_I σ μ) (hc : cells + 1 ≤ 600000) (hs : slots + 3 ≤ 7302250) (K : ∀ u w, cv_I u w → ∀ cells' slots', cells' ≤ cells + 1 → slots' ≤ slots + 3 → cv_LA p l e s m below meth c b D cA a ab u w ls cells' slots' 1132 []) : cv_LA p l e s m below meth c b D cA a ab σ μ ls cells slots 576 [] := by
  obtain ⟨x, P1, P2, h1, h2, h3⟩ := cv_p_reading (xs (i + 1)) (xs (i + 2)) hI
  obtain ⟨hx, hb, hr, hml, hown, hts0, hX, hbl, hlocks, hgv⟩ := X.1
  have hL := X.2.1
  intro H locs hP hM hS
  refine lv_aload_n hx hb (cv_dec dkL_law5 6 (576, .aload_n 1, 1) rfl) rfl (lv_at hl 2 rfl) ?_
  refine cv_larg hx hb hX hbl hS (lv_at hl 1 rfl) (lv_at hl 0 rfl) (k := 1) (by omega) hL (by decide) (cv_dec dkL_law5 7 (577, .aload_n 0, 1) rfl) (cv_dec dkL_law5 8 (578, .iload_n 3, 1) rfl) (cv_dec dkL_law5 9 (579, .iconst 1, 1) rfl) (cv_dec dkL_law5 10 (580, .iadd, 1) rfl) (cv_dec dkL_law5 11 (581, .iaload, 1) rfl) ?_
  refine cv_larg hx hb hX hbl hS (lv_at hl 1 rfl) (lv_at hl 0 rfl) (k := 2) (by omega) hL (by decide) (cv_dec dkL_law5 12 (582, .aload_n 0, 1) rfl) (cv_dec dkL_law5 13 (583, .iload_n 3, 1) rfl) (cv_dec dkL_law5 14 (584, .iconst 2, 1) rfl) (cv_dec dkL_law5 15 (585, .iadd, 1) rfl) (cv_dec dkL_law5 16 (586, .iaload, 1) rfl) ?_
  refine cv_lcC X hl.1 (As := [.int (xs (i + 1)), .int (xs (i + 2))]) (np := 2) (rest := []) h1 rfl (by decide +kernel) rfl wmL_65 wi_yX6_reading ws_yX6_reading wc_yX6_reading (by decide) (by decide) (by omega) (by omega) (cv_dec dkL_law5 17 (587, .invokevirtual 65, 3) rfl) (Nat.le_of_ble_eq_true rfl) rfl (fun v u hv => ?_) H locs hP hM hS
  obtain ⟨rfl, hu⟩ := hv
  intro H locs hP hM hS
  refine lv_aload_n hx hb (cv_dec dkL_law5 18 (590, .aload_n 2, 1) rfl) rfl (lv_at hl 3 rfl) ?_
  refine cv_larg hx hb hX hbl hS (lv_at hl 1 rfl) (lv_at hl 0 rfl) (k := 1) (by omega) hL (by decide) (cv_dec dkL_law5 19 (591, .aload_n 0, 1) rfl) (cv_dec dkL_law5 20 (592, .iload_n 3, 1) rfl) (cv_dec dkL_law5 21 (593, .iconst 1, 1) rfl) (cv_dec dkL_law5 22 (594, .iadd, 1) rfl) (cv_dec dkL_law5 23 (595, .iaload, 1) rfl) ?_
  refine cv_larg hx hb hX hbl hS (lv_at hl 1 rfl) (lv_at hl 0 rfl) (k := 2) (by omega) hL (by decide) (cv_dec dkL_law5 24 (596, .aload_n 0, 1) rfl) (cv_dec dkL_law5 25 (597, .iload_n 3, 1) rfl) (cv_dec dkL_law5 26 (598, .iconst 2, 1) rfl) (cv_dec dkL_law5 27 (599, .iadd, 1) rfl) (cv_dec dkL_law5 28 (600, .iaload, 1) rfl) ?_
  refine cv_lcM X hl.1 (As := [.int (xs (i + 1)), .int (xs (i + 2))]) (np := 2) (rest := [.int x]) h2 rfl (by decide +kernel) rfl wmL_68 wi_yX7_reading ws_yX7_reading wc_yX7_reading (by decide) (by decide) (by omega) (by omega) (cv_dec dkL_law5 29 (601, .invokevirtual 68, 3) rfl) (Nat.le_of_ble_eq_true rfl) rfl (fun v w hv => ?_) H locs hP hM hS
  obtain ⟨rfl, hw⟩ := hv
  intro H locs hP hM hS
  exact lv_icmp_eq (tgt := 1132) hx hb (cv_dec dkL_law5 30 (604, .if_icmp .eq 528, 3) rfl) (by decide) (fun _ => K u w (h3 u w hu hw) _ _ (by omega) (by omega) H locs hP hM hS) (fun hne => absurd rfl hne)
set_option maxHeartbeats 4000000 in
set_option maxRecDepth 100000 in
theorem cv_c_back {p : Program} {l : Launch} {e : Env} {s : State} {m : MethodId} {below : List Frame} {meth : Method} {c : Code} {b L : Nat} {xs : Nat → Int32} {D : va_G} {cA : Nat → ClassId} {a ab : Nat → Nat} {σ μ : cv_St} {ls : Array Slot} {cells slots i : Nat} (X : cv_LX p s m meth c b L xs D cA a ab) (hl : lv_has ls 4 [(3, .int (nI i)), (0, .ref b), (1, .ref (a 0)), (2, .ref (ab 0))]) (hi : i + 7 ≤ L) (hI : cv_I σ μ) (hc : cells + 1 ≤ 600000) (hs : slots + 3 ≤ 7302250) (K : ∀ u w, cv_I u w → ∀ cells' slots', cells' ≤ cells + 1 → slots' ≤ slots + 3 → cv_LA p l e s m below meth c b D cA a ab u w ls cells' slots' 1132 []) : cv_LA p l e s m below meth c b D cA a ab σ μ ls cells slots 609 [] := by
  obtain ⟨x, P1, P2, h1, h2, h3⟩ := cv_p_back (xs (i + 1)) hI
  obtain ⟨hx, hb, hr, hml, hown, hts0, hX, hbl, hlocks, hgv⟩ := X.1
  have hL := X.2.1
  intro H locs hP hM hS
  refine lv_aload_n hx hb (cv_dec dkL_law5 33 (609, .aload_n 1, 1) rfl) rfl (lv_at hl 2 rfl) ?_
  refine cv_larg hx hb hX hbl hS (lv_at hl 1 rfl) (lv_at hl 0 rfl) (k := 1) (by omega) hL (by decide) (cv_dec dkL_law5 34 (610, .aload_n 0, 1) rfl) (cv_dec dkL_law5 35 (611, .iload_n 3, 1) rfl) (cv_dec dkL_law5 36 (612, .iconst 1, 1) rfl) (cv_dec dkL_law5 37 (613, .iadd, 1) rfl) (cv_dec dkL_law5 38 (614, .iaload, 1) rfl) ?_
  refine cv_lcC X hl.1 (As := [.int (xs (i + 1))]) (np := 1) (rest := []) h1 rfl (by decide +kernel) rfl wmL_69 wi_yX6_back ws_yX6_back wc_yX6_back (by decide) (by decide) (by omega) (by omega) (cv_dec dkL_law5 39 (615, .invokevirtual 69, 3) rfl) (Nat.le_of_ble_eq_true rfl) rfl (fun v u hv => ?_) H locs hP hM hS
  obtain ⟨rfl, hu⟩ := hv
  intro H locs hP hM hS
  refine lv_aload_n hx hb (cv_dec dkL_law5 40 (618, .aload_n 2, 1) rfl) rfl (lv_at hl 3 rfl) ?_
  refine cv_larg hx hb hX hbl hS (lv_at hl 1 rfl) (lv_at hl 0 rfl) (k := 1) (by omega) hL (by decide) (cv_dec dkL_law5 41 (619, .aload_n 0, 1) rfl) (cv_dec dkL_law5 42 (620, .iload_n 3, 1) rfl) (cv_dec dkL_law5 43 (621, .iconst 1, 1) rfl) (cv_dec dkL_law5 44 (622, .iadd, 1) rfl) (cv_dec dkL_law5 45 (623, .iaload, 1) rfl) ?_
  refine cv_lcM X hl.1 (As := [.int (xs (i + 1))]) (np := 1) (rest := [.int x]) h2 rfl (by decide +kernel) rfl wmL_72 wi_yX7_back ws_yX7_back wc_yX7_back (by decide) (by decide) (by omega) (by omega) (cv_dec dkL_law5 46 (624, .invokevirtual 72, 3) rfl) (Nat.le_of_ble_eq_true rfl) rfl (fun v w hv => ?_) H locs hP hM hS
  obtain ⟨rfl, hw⟩ := hv
  intro H locs hP hM hS
  exact lv_icmp_eq (tgt := 1132) hx hb (cv_dec dkL_law5 47 (627, .if_icmp .eq 505, 3) rfl) (by decide) (fun _ => K u w (h3 u w hu hw) _ _ (by omega) (by omega) H locs hP hM hS) (fun hne => absurd rfl hne)
set_option maxHeartbeats 4000000 in
set_option maxRecDepth 100000 in
theorem cv_c_snows {p : Program} {l : Launch} {e : Env} {s : State} {m : MethodId} {below : List Frame} {meth : Method} {c : Code} {b L : Nat} {xs : Nat → Int32} {D : va_G} {cA : Nat → ClassId} {a ab : Nat → Nat} {σ μ : cv_St} {ls : Array Slot} {cells slots i : Nat} (X : cv_LX p s m meth c b L xs D cA a ab) (hl : lv_has ls 4 [(3, .int (nI i)), (0, .ref b), (1, .ref (a 0)), (2, .ref (ab 0))]) (hi : i + 7 ≤ L) (hI : cv_I σ μ) (hc : cells + 1 ≤ 600000) (hs : slots + 3 ≤ 7302250) (K : ∀ u w, cv_I u w → ∀ cells' slots', cells' ≤ cells + 1 → slots' ≤ slots + 3 → cv_LA p l e s m below meth c b D cA a ab u w ls cells' slots' 1132 []) : cv_LA p l e s m below meth c b D cA a ab σ μ ls cells slots 632 [] := by
  obtain ⟨x, P1, P2, h1, h2, h3⟩ := cv_p_snows (xs (i + 1)) hI
  obtain ⟨hx, hb, hr, hml, hown, hts0, hX, hbl, hlocks, hgv⟩ := X.1
  have hL := X.2.1
  intro H locs hP hM hS
  refine lv_aload_n hx hb (cv_dec dkL_law5 50 (632, .aload_n 1, 1) rfl) rfl (lv_at hl 2 rfl) ?_
  refine cv_larg hx hb hX hbl hS (lv_at hl 1 rfl) (lv_at hl 0 rfl) (k := 1) (by omega) hL (by decide) (cv_dec dkL_law5 51 (633, .aload_n 0, 1) rfl) (cv_dec dkL_law5 52 (634, .iload_n 3, 1) rfl) (cv_dec dkL_law5 53 (635, .iconst 1, 1) rfl) (cv_dec dkL_law5 54 (636, .iadd, 1) rfl) (cv_dec dkL_law5 55 (637, .iaload, 1) rfl) ?_
  refine cv_lcC X hl.1 (As := [.int (xs (i + 1))]) (np := 1) (rest := []) h1 rfl (by decide +kernel) rfl wmL_73 wi_yX6_snows ws_yX6_snows wc_yX6_snows (by decide) (by decide) (by omega) (by omega) (cv_dec dkL_law5 56 (638, .invokevirtual 73, 3) rfl) (Nat.le_of_ble_eq_true rfl) rfl (fun v u hv => ?_) H locs hP hM hS
  obtain ⟨rfl, hu⟩ := hv
  intro H locs hP hM hS
  refine lv_aload_n hx hb (cv_dec dkL_law5 57 (641, .aload_n 2, 1) rfl) rfl (lv_at hl 3 rfl) ?_
  refine cv_larg hx hb hX hbl hS (lv_at hl 1 rfl) (lv_at hl 0 rfl) (k := 1) (by omega) hL (by decide) (cv_dec dkL_law5 58 (642, .aload_n 0, 1) rfl) (cv_dec dkL_law5 59 (643, .iload_n 3, 1) rfl) (cv_dec dkL_law5 60 (644, .iconst 1, 1) rfl) (cv_dec dkL_law5 61 (645, .iadd, 1) rfl) (cv_dec dkL_law5 62 (646, .iaload, 1) rfl) ?_
  refine cv_lcM X hl.1 (As := [.int (xs (i + 1))]) (np := 1) (rest := [.int x]) h2 rfl (by decide +kernel) rfl wmL_76 wi_yX7_snows ws_yX7_snows wc_yX7_snows (by decide) (by decide) (by omega) (by omega) (cv_dec dkL_law5 63 (647, .invokevirtual 76, 3) rfl) (Nat.le_of_ble_eq_true rfl) rfl (fun v w hv => ?_) H locs hP hM hS
  obtain ⟨rfl, hw⟩ := hv
  intro H locs hP hM hS
  exact lv_icmp_eq (tgt := 1132) hx hb (cv_dec dkL_law5 64 (650, .if_icmp .eq 482, 3) rfl) (by decide) (fun _ => K u w (h3 u w hu hw) _ _ (by omega) (by omega) H locs hP hM hS) (fun hne => absurd rfl hne)
set_option maxHeartbeats 4000000 in
set_option maxRecDepth 100000 in
theorem cv_c_heights {p : Program} {l : Launch} {e : Env} {s : State} {m : MethodId} {below : List Frame} {meth : Method} {c : Code} {b L : Nat} {xs : Nat → Int32} {D : va_G} {cA : Nat → ClassId} {a ab : Nat → Nat} {σ μ : cv_St} {ls : Array Slot} {cells slots i : Nat} (X : cv_LX p s m meth c b L xs D cA a ab) (hl : lv_has ls 4 [(3, .int (nI i)), (0, .ref b), (1, .ref (a 0)), (2, .ref (ab 0))]) (hi : i + 7 ≤ L) (hI : cv_I σ μ) (hc : cells + 1 ≤ 600000) (hs : slots + 3 ≤ 7302250) (K : ∀ u w, cv_I u w → ∀ cells' slots', cells' ≤ cells + 1 → slots' ≤ slots + 3 → cv_LA p l e s m below meth c b D cA a ab u w ls cells' slots' 1132 []) : cv_LA p l e s m below meth c b D cA a ab σ μ ls cells slots 655 [] := by
  obtain ⟨x, P1, P2, h1, h2, h3⟩ := cv_p_heights (xs (i + 1)) hI
  obtain ⟨hx, hb, hr, hml, hown, hts0, hX, hbl, hlocks, hgv⟩ := X.1
  have hL := X.2.1
  intro H locs hP hM hS
  refine lv_aload_n hx hb (cv_dec dkL_law5 67 (655, .aload_n 1, 1) rfl) rfl (lv_at hl 2 rfl) ?_
  refine cv_larg hx hb hX hbl hS (lv_at hl 1 rfl) (lv_at hl 0 rfl) (k := 1) (by omega) hL (by decide) (cv_dec dkL_law5 68 (656, .aload_n 0, 1) rfl) (cv_dec dkL_law5 69 (657, .iload_n 3, 1) rfl) (cv_dec dkL_law6 0 (658, .iconst 1, 1) rfl) (cv_dec dkL_law6 1 (659, .iadd, 1) rfl) (cv_dec dkL_law6 2 (660, .iaload, 1) rfl) ?_
  refine cv_lcC X hl.1 (As := [.int (xs (i + 1))]) (np := 1) (rest := []) h1 rfl (by decide +kernel) rfl wmL_77 wi_yX6_heights ws_yX6_heights wc_yX6_heights (by decide) (by decide) (by omega) (by omega) (cv_dec dkL_law6 3 (661, .invokevirtual 77, 3) rfl) (Nat.le_of_ble_eq_true rfl) rfl (fun v u hv => ?_) H locs hP hM hS
  obtain ⟨rfl, hu⟩ := hv
  intro H locs hP hM hS
  refine lv_aload_n hx hb (cv_dec dkL_law6 4 (664, .aload_n 2, 1) rfl) rfl (lv_at hl 3 rfl) ?_
  refine cv_larg hx hb hX hbl hS (lv_at hl 1 rfl) (lv_at hl 0 rfl) (k := 1) (by omega) hL (by decide) (cv_dec dkL_law6 5 (665, .aload_n 0, 1) rfl) (cv_dec dkL_law6 6 (666, .iload_n 3, 1) rfl) (cv_dec dkL_law6 7 (667, .iconst 1, 1) rfl) (cv_dec dkL_law6 8 (668, .iadd, 1) rfl) (cv_dec dkL_law6 9 (669, .iaload, 1) rfl) ?_
  refine cv_lcM X hl.1 (As := [.int (xs (i + 1))]) (np := 1) (rest := [.int x]) h2 rfl (by decide +kernel) rfl wmL_80 wi_yX7_heights ws_yX7_heights wc_yX7_heights (by decide) (by decide) (by omega) (by omega) (cv_dec dkL_law6 10 (670, .invokevirtual 80, 3) rfl) (Nat.le_of_ble_eq_true rfl) rfl (fun v w hv => ?_) H locs hP hM hS
  obtain ⟨rfl, hw⟩ := hv
  intro H locs hP hM hS
  exact lv_icmp_eq (tgt := 1132) hx hb (cv_dec dkL_law6 11 (673, .if_icmp .eq 459, 3) rfl) (by decide) (fun _ => K u w (h3 u w hu hw) _ _ (by omega) (by omega) H locs hP hM hS) (fun hne => absurd rfl hne)
set_option maxHeartbeats 4000000 in
set_option maxRecDepth 100000 in
theorem cv_c_kinds {p : Program} {l : Launch} {e : Env} {s : State} {m : MethodId} {below : List Frame} {meth : Method} {c : Code} {b L : Nat} {xs : Nat → Int32} {D : va_G} {cA : Nat → ClassId} {a ab : Nat → Nat} {σ μ : cv_St} {ls : Array Slot} {cells slots i : Nat} (X : cv_LX p s m meth c b L xs D cA a ab) (hl : lv_has ls 4 [(3, .int (nI i)), (0, .ref b), (1, .ref (a 0)), (2, .ref (ab 0))]) (hi : i + 7 ≤ L) (hI : cv_I σ μ) (hc : cells + 1 ≤ 600000) (hs : slots + 3 ≤ 7302250) (K : ∀ u w, cv_I u w → ∀ cells' slots', cells' ≤ cells + 1 → slots' ≤ slots + 3 → cv_LA p l e s m below meth c b D cA a ab u w ls cells' slots' 1132 []) : cv_LA p l e s m below meth c b D cA a ab σ μ ls cells slots 678 [] := by
  obtain ⟨x, P1, P2, h1, h2, h3⟩ := cv_p_kinds (xs (i + 1)) hI
  obtain ⟨hx, hb, hr, hml, hown, hts0, hX, hbl, hlocks, hgv⟩ := X.1
  have hL := X.2.1
  intro H locs hP hM hS
  refine lv_aload_n hx hb (cv_dec dkL_law6 14 (678, .aload_n 1, 1) rfl) rfl (lv_at hl 2 rfl) ?_
  refine cv_larg hx hb hX hbl hS (lv_at hl 1 rfl) (lv_at hl 0 rfl) (k := 1) (by omega) hL (by decide) (cv_dec dkL_law6 15 (679, .aload_n 0, 1) rfl) (cv_dec dkL_law6 16 (680, .iload_n 3, 1) rfl) (cv_dec dkL_law6 17 (681, .iconst 1, 1) rfl) (cv_dec dkL_law6 18 (682, .iadd, 1) rfl) (cv_dec dkL_law6 19 (683, .iaload, 1) rfl) ?_
  refine cv_lcC X hl.1 (As := [.int (xs (i + 1))]) (np := 1) (rest := []) h1 rfl (by decide +kernel) rfl wmL_81 wi_yX6_kinds ws_yX6_kinds wc_yX6_kinds (by decide) (by decide) (by omega) (by omega) (cv_dec dkL_law6 20 (684, .invokevirtual 81, 3) rfl) (Nat.le_of_ble_eq_true rfl) rfl (fun v u hv => ?_) H locs hP hM hS
  obtain ⟨rfl, hu⟩ := hv
  intro H locs hP hM hS
  refine lv_aload_n hx hb (cv_dec dkL_law6 21 (687, .aload_n 2, 1) rfl) rfl (lv_at hl 3 rfl) ?_
  refine cv_larg hx hb hX hbl hS (lv_at hl 1 rfl) (lv_at hl 0 rfl) (k := 1) (by omega) hL (by decide) (cv_dec dkL_law6 22 (688, .aload_n 0, 1) rfl) (cv_dec dkL_law6 23 (689, .iload_n 3, 1) rfl) (cv_dec dkL_law6 24 (690, .iconst 1, 1) rfl) (cv_dec dkL_law6 25 (691, .iadd, 1) rfl) (cv_dec dkL_law6 26 (692, .iaload, 1) rfl) ?_
  refine cv_lcM X hl.1 (As := [.int (xs (i + 1))]) (np := 1) (rest := [.int x]) h2 rfl (by decide +kernel) rfl wmL_84 wi_yX7_kinds ws_yX7_kinds wc_yX7_kinds (by decide) (by decide) (by omega) (by omega) (cv_dec dkL_law6 27 (693, .invokevirtual 84, 3) rfl) (Nat.le_of_ble_eq_true rfl) rfl (fun v w hv => ?_) H locs hP hM hS
  obtain ⟨rfl, hw⟩ := hv
  intro H locs hP hM hS
  exact lv_icmp_eq (tgt := 1132) hx hb (cv_dec dkL_law6 28 (696, .if_icmp .eq 436, 3) rfl) (by decide) (fun _ => K u w (h3 u w hu hw) _ _ (by omega) (by omega) H locs hP hM hS) (fun hne => absurd rfl hne)
set_option maxHeartbeats 4000000 in
set_option maxRecDepth 100000 in
theorem cv_c_gave {p : Program} {l : Launch} {e : Env} {s : State} {m : MethodId} {below : List Frame} {meth : Method} {c : Code} {b L : Nat} {xs : Nat → Int32} {D : va_G} {cA : Nat → ClassId} {a ab : Nat → Nat} {σ μ : cv_St} {ls : Array Slot} {cells slots i : Nat} (X : cv_LX p s m meth c b L xs D cA a ab) (hl : lv_has ls 4 [(3, .int (nI i)), (0, .ref b), (1, .ref (a 0)), (2, .ref (ab 0))]) (hi : i + 7 ≤ L) (hI : cv_I σ μ) (hc : cells + 1 ≤ 600000) (hs : slots + 3 ≤ 7302250) (K : ∀ u w, cv_I u w → ∀ cells' slots', cells' ≤ cells + 1 → slots' ≤ slots + 3 → cv_LA p l e s m below meth c b D cA a ab u w ls cells' slots' 1132 []) : cv_LA p l e s m below meth c b D cA a ab σ μ ls cells slots 701 [] := by
  obtain ⟨x, P1, P2, h1, h2, h3⟩ := cv_p_gave (xs (i + 1)) (xs (i + 2)) hI
  obtain ⟨hx, hb, hr, hml, hown, hts0, hX, hbl, hlocks, hgv⟩ := X.1
  have hL := X.2.1
  intro H locs hP hM hS
  refine lv_aload_n hx hb (cv_dec dkL_law6 31 (701, .aload_n 1, 1) rfl) rfl (lv_at hl 2 rfl) ?_
  refine cv_larg hx hb hX hbl hS (lv_at hl 1 rfl) (lv_at hl 0 rfl) (k := 1) (by omega) hL (by decide) (cv_dec dkL_law6 32 (702, .aload_n 0, 1) rfl) (cv_dec dkL_law6 33 (703, .iload_n 3, 1) rfl) (cv_dec dkL_law6 34 (704, .iconst 1, 1) rfl) (cv_dec dkL_law6 35 (705, .iadd, 1) rfl) (cv_dec dkL_law6 36 (706, .iaload, 1) rfl) ?_
  refine cv_larg hx hb hX hbl hS (lv_at hl 1 rfl) (lv_at hl 0 rfl) (k := 2) (by omega) hL (by decide) (cv_dec dkL_law6 37 (707, .aload_n 0, 1) rfl) (cv_dec dkL_law6 38 (708, .iload_n 3, 1) rfl) (cv_dec dkL_law6 39 (709, .iconst 2, 1) rfl) (cv_dec dkL_law6 40 (710, .iadd, 1) rfl) (cv_dec dkL_law6 41 (711, .iaload, 1) rfl) ?_
  refine cv_lcC X hl.1 (As := [.int (xs (i + 1)), .int (xs (i + 2))]) (np := 2) (rest := []) h1 rfl (by decide +kernel) rfl wmL_85 wi_yX6_gave ws_yX6_gave wc_yX6_gave (by decide) (by decide) (by omega) (by omega) (cv_dec dkL_law6 42 (712, .invokevirtual 85, 3) rfl) (Nat.le_of_ble_eq_true rfl) rfl (fun v u hv => ?_) H locs hP hM hS
  obtain ⟨rfl, hu⟩ := hv
  intro H locs hP hM hS
  refine lv_aload_n hx hb (cv_dec dkL_law6 43 (715, .aload_n 2, 1) rfl) rfl (lv_at hl 3 rfl) ?_
  refine cv_larg hx hb hX hbl hS (lv_at hl 1 rfl) (lv_at hl 0 rfl) (k := 1) (by omega) hL (by decide) (cv_dec dkL_law6 44 (716, .aload_n 0, 1) rfl) (cv_dec dkL_law6 45 (717, .iload_n 3, 1) rfl) (cv_dec dkL_law6 46 (718, .iconst 1, 1) rfl) (cv_dec dkL_law6 47 (719, .iadd, 1) rfl) (cv_dec dkL_law6 48 (720, .iaload, 1) rfl) ?_
  refine cv_larg hx hb hX hbl hS (lv_at hl 1 rfl) (lv_at hl 0 rfl) (k := 2) (by omega) hL (by decide) (cv_dec dkL_law6 49 (721, .aload_n 0, 1) rfl) (cv_dec dkL_law6 50 (722, .iload_n 3, 1) rfl) (cv_dec dkL_law6 51 (723, .iconst 2, 1) rfl) (cv_dec dkL_law6 52 (724, .iadd, 1) rfl) (cv_dec dkL_law6 53 (725, .iaload, 1) rfl) ?_
  refine cv_lcM X hl.1 (As := [.int (xs (i + 1)), .int (xs (i + 2))]) (np := 2) (rest := [.int x]) h2 rfl (by decide +kernel) rfl wmL_88 wi_yX7_gave ws_yX7_gave wc_yX7_gave (by decide) (by decide) (by omega) (by omega) (cv_dec dkL_law6 54 (726, .invokevirtual 88, 3) rfl) (Nat.le_of_ble_eq_true rfl) rfl (fun v w hv => ?_) H locs hP hM hS
  obtain ⟨rfl, hw⟩ := hv
  intro H locs hP hM hS
  exact lv_icmp_eq (tgt := 1132) hx hb (cv_dec dkL_law6 55 (729, .if_icmp .eq 403, 3) rfl) (by decide) (fun _ => K u w (h3 u w hu hw) _ _ (by omega) (by omega) H locs hP hM hS) (fun hne => absurd rfl hne)
set_option maxHeartbeats 4000000 in
set_option maxRecDepth 100000 in
theorem cv_c_odds {p : Program} {l : Launch} {e : Env} {s : State} {m : MethodId} {below : List Frame} {meth : Method} {c : Code} {b L : Nat} {xs : Nat → Int32} {D : va_G} {cA : Nat → ClassId} {a ab : Nat → Nat} {σ μ : cv_St} {ls : Array Slot} {cells slots i : Nat} (X : cv_LX p s m meth c b L xs D cA a ab) (hl : lv_has ls 4 [(3, .int (nI i)), (0, .ref b), (1, .ref (a 0)), (2, .ref (ab 0))]) (hi : i + 7 ≤ L) (hI : cv_I σ μ) (hc : cells + 1 ≤ 600000) (hs : slots + 3 ≤ 7302250) (K : ∀ u w, cv_I u w → ∀ cells' slots', cells' ≤ cells + 1 → slots' ≤ slots + 3 → cv_LA p l e s m below meth c b D cA a ab u w ls cells' slots' 1132 []) : cv_LA p l e s m below meth c b D cA a ab σ μ ls cells slots 734 [] := by
  obtain ⟨x, P1, P2, h1, h2, h3⟩ := cv_p_odds (xs (i + 1)) (xs (i + 2)) (xs (i + 3)) (xs (i + 4)) hI
  obtain ⟨hx, hb, hr, hml, hown, hts0, hX, hbl, hlocks, hgv⟩ := X.1
  have hL := X.2.1
  intro H locs hP hM hS
  refine lv_aload_n hx hb (cv_dec dkL_law6 58 (734, .aload_n 1, 1) rfl) rfl (lv_at hl 2 rfl) ?_
  refine cv_larg hx hb hX hbl hS (lv_at hl 1 rfl) (lv_at hl 0 rfl) (k := 1) (by omega) hL (by decide) (cv_dec dkL_law6 59 (735, .aload_n 0, 1) rfl) (cv_dec dkL_law6 60 (736, .iload_n 3, 1) rfl) (cv_dec dkL_law6 61 (737, .iconst 1, 1) rfl) (cv_dec dkL_law6 62 (738, .iadd, 1) rfl) (cv_dec dkL_law6 63 (739, .iaload, 1) rfl) ?_
  refine cv_larg hx hb hX hbl hS (lv_at hl 1 rfl) (lv_at hl 0 rfl) (k := 2) (by omega) hL (by decide) (cv_dec dkL_law6 64 (740, .aload_n 0, 1) rfl) (cv_dec dkL_law6 65 (741, .iload_n 3, 1) rfl) (cv_dec dkL_law6 66 (742, .iconst 2, 1) rfl) (cv_dec dkL_law6 67 (743, .iadd, 1) rfl) (cv_dec dkL_law6 68 (744, .iaload, 1) rfl) ?_
  refine cv_larg hx hb hX hbl hS (lv_at hl 1 rfl) (lv_at hl 0 rfl) (k := 3) (by omega) hL (by decide) (cv_dec dkL_law6 69 (745, .aload_n 0, 1) rfl) (cv_dec dkL_law7 0 (746, .iload_n 3, 1) rfl) (cv_dec dkL_law7 1 (747, .iconst 3, 1) rfl) (cv_dec dkL_law7 2 (748, .iadd, 1) rfl) (cv_dec dkL_law7 3 (749, .iaload, 1) rfl) ?_
  refine cv_larg hx hb hX hbl hS (lv_at hl 1 rfl) (lv_at hl 0 rfl) (k := 4) (by omega) hL (by decide) (cv_dec dkL_law7 4 (750, .aload_n 0, 1) rfl) (cv_dec dkL_law7 5 (751, .iload_n 3, 1) rfl) (cv_dec dkL_law7 6 (752, .iconst 4, 1) rfl) (cv_dec dkL_law7 7 (753, .iadd, 1) rfl) (cv_dec dkL_law7 8 (754, .iaload, 1) rfl) ?_
  refine cv_lcC X hl.1 (As := [.int (xs (i + 1)), .int (xs (i + 2)), .int (xs (i + 3)), .int (xs (i + 4))]) (np := 4) (rest := []) h1 rfl (by decide +kernel) rfl wmL_89 wi_yX6_odds ws_yX6_odds wc_yX6_odds (by decide) (by decide) (by omega) (by omega) (cv_dec dkL_law7 9 (755, .invokevirtual 89, 3) rfl) (Nat.le_of_ble_eq_true rfl) rfl (fun v u hv => ?_) H locs hP hM hS
  obtain ⟨rfl, hu⟩ := hv
  intro H locs hP hM hS
  refine lv_aload_n hx hb (cv_dec dkL_law7 10 (758, .aload_n 2, 1) rfl) rfl (lv_at hl 3 rfl) ?_
  refine cv_larg hx hb hX hbl hS (lv_at hl 1 rfl) (lv_at hl 0 rfl) (k := 1) (by omega) hL (by decide) (cv_dec dkL_law7 11 (759, .aload_n 0, 1) rfl) (cv_dec dkL_law7 12 (760, .iload_n 3, 1) rfl) (cv_dec dkL_law7 13 (761, .iconst 1, 1) rfl) (cv_dec dkL_law7 14 (762, .iadd, 1) rfl) (cv_dec dkL_law7 15 (763, .iaload, 1) rfl) ?_
  refine cv_larg hx hb hX hbl hS (lv_at hl 1 rfl) (lv_at hl 0 rfl) (k := 2) (by omega) hL (by decide) (cv_dec dkL_law7 16 (764, .aload_n 0, 1) rfl) (cv_dec dkL_law7 17 (765, .iload_n 3, 1) rfl) (cv_dec dkL_law7 18 (766, .iconst 2, 1) rfl) (cv_dec dkL_law7 19 (767, .iadd, 1) rfl) (cv_dec dkL_law7 20 (768, .iaload, 1) rfl) ?_
  refine cv_larg hx hb hX hbl hS (lv_at hl 1 rfl) (lv_at hl 0 rfl) (k := 3) (by omega) hL (by decide) (cv_dec dkL_law7 21 (769, .aload_n 0, 1) rfl) (cv_dec dkL_law7 22 (770, .iload_n 3, 1) rfl) (cv_dec dkL_law7 23 (771, .iconst 3, 1) rfl) (cv_dec dkL_law7 24 (772, .iadd, 1) rfl) (cv_dec dkL_law7 25 (773, .iaload, 1) rfl) ?_
  refine cv_larg hx hb hX hbl hS (lv_at hl 1 rfl) (lv_at hl 0 rfl) (k := 4) (by omega) hL (by decide) (cv_dec dkL_law7 26 (774, .aload_n 0, 1) rfl) (cv_dec dkL_law7 27 (775, .iload_n 3, 1) rfl) (cv_dec dkL_law7 28 (776, .iconst 4, 1) rfl) (cv_dec dkL_law7 29 (777, .iadd, 1) rfl) (cv_dec dkL_law7 30 (778, .iaload, 1) rfl) ?_
  refine cv_lcM X hl.1 (As := [.int (xs (i + 1)), .int (xs (i + 2)), .int (xs (i + 3)), .int (xs (i + 4))]) (np := 4) (rest := [.long x]) h2 rfl (by decide +kernel) rfl wmL_93 wi_yX7_odds ws_yX7_odds wc_yX7_odds (by decide) (by decide) (by omega) (by omega) (cv_dec dkL_law7 31 (779, .invokevirtual 93, 3) rfl) (Nat.le_of_ble_eq_true rfl) rfl (fun v w hv => ?_) H locs hP hM hS
  obtain ⟨rfl, hw⟩ := hv
  intro H locs hP hM hS
  refine W.lcmp hx hb (cv_dec dkL_law7 32 (782, .lcmp, 1) rfl) ?_
  exact lv_if_eq (tgt := 1132) hx hb (cv_dec dkL_law7 33 (783, .ifCond .eq 349, 3) rfl) (by decide) (fun _ => K u w (h3 u w hu hw) _ _ (by omega) (by omega) H locs hP hM hS) (fun hne => absurd ((lg_cmp_eq _ _).mpr rfl) hne)
set_option maxHeartbeats 4000000 in
set_option maxRecDepth 100000 in
theorem cv_c_sheet {p : Program} {l : Launch} {e : Env} {s : State} {m : MethodId} {below : List Frame} {meth : Method} {c : Code} {b L : Nat} {xs : Nat → Int32} {D : va_G} {cA : Nat → ClassId} {a ab : Nat → Nat} {σ μ : cv_St} {ls : Array Slot} {cells slots i : Nat} (X : cv_LX p s m meth c b L xs D cA a ab) (hl : lv_has ls 4 [(3, .int (nI i)), (0, .ref b), (1, .ref (a 0)), (2, .ref (ab 0))]) (hi : i + 7 ≤ L) (hI : cv_I σ μ) (hc : cells + 1 ≤ 600000) (hs : slots + 3 ≤ 7302250) (K : ∀ u w, cv_I u w → ∀ cells' slots', cells' ≤ cells + 1 → slots' ≤ slots + 3 → cv_LA p l e s m below meth c b D cA a ab u w ls cells' slots' 1132 []) : cv_LA p l e s m below meth c b D cA a ab σ μ ls cells slots 788 [] := by
  obtain ⟨x, P1, P2, h1, h2, h3⟩ := cv_p_sheet (xs (i + 1)) (xs (i + 2)) (xs (i + 3)) hI
  obtain ⟨hx, hb, hr, hml, hown, hts0, hX, hbl, hlocks, hgv⟩ := X.1
  have hL := X.2.1
  intro H locs hP hM hS
  refine lv_aload_n hx hb (cv_dec dkL_law7 36 (788, .aload_n 1, 1) rfl) rfl (lv_at hl 2 rfl) ?_
  refine cv_larg hx hb hX hbl hS (lv_at hl 1 rfl) (lv_at hl 0 rfl) (k := 1) (by omega) hL (by decide) (cv_dec dkL_law7 37 (789, .aload_n 0, 1) rfl) (cv_dec dkL_law7 38 (790, .iload_n 3, 1) rfl) (cv_dec dkL_law7 39 (791, .iconst 1, 1) rfl) (cv_dec dkL_law7 40 (792, .iadd, 1) rfl) (cv_dec dkL_law7 41 (793, .iaload, 1) rfl) ?_
  refine cv_larg hx hb hX hbl hS (lv_at hl 1 rfl) (lv_at hl 0 rfl) (k := 2) (by omega) hL (by decide) (cv_dec dkL_law7 42 (794, .aload_n 0, 1) rfl) (cv_dec dkL_law7 43 (795, .iload_n 3, 1) rfl) (cv_dec dkL_law7 44 (796, .iconst 2, 1) rfl) (cv_dec dkL_law7 45 (797, .iadd, 1) rfl) (cv_dec dkL_law7 46 (798, .iaload, 1) rfl) ?_
  refine cv_larg hx hb hX hbl hS (lv_at hl 1 rfl) (lv_at hl 0 rfl) (k := 3) (by omega) hL (by decide) (cv_dec dkL_law7 47 (799, .aload_n 0, 1) rfl) (cv_dec dkL_law7 48 (800, .iload_n 3, 1) rfl) (cv_dec dkL_law7 49 (801, .iconst 3, 1) rfl) (cv_dec dkL_law7 50 (802, .iadd, 1) rfl) (cv_dec dkL_law7 51 (803, .iaload, 1) rfl) ?_
  refine cv_lcC X hl.1 (As := [.int (xs (i + 1)), .int (xs (i + 2)), .int (xs (i + 3))]) (np := 3) (rest := []) h1 rfl (by decide +kernel) rfl wmL_94 wi_yX6_sheet ws_yX6_sheet wc_yX6_sheet (by decide) (by decide) (by omega) (by omega) (cv_dec dkL_law7 52 (804, .invokevirtual 94, 3) rfl) (Nat.le_of_ble_eq_true rfl) rfl (fun v u hv => ?_) H locs hP hM hS
  obtain ⟨rfl, hu⟩ := hv
  intro H locs hP hM hS
  refine lv_aload_n hx hb (cv_dec dkL_law7 53 (807, .aload_n 2, 1) rfl) rfl (lv_at hl 3 rfl) ?_
  refine cv_larg hx hb hX hbl hS (lv_at hl 1 rfl) (lv_at hl 0 rfl) (k := 1) (by omega) hL (by decide) (cv_dec dkL_law7 54 (808, .aload_n 0, 1) rfl) (cv_dec dkL_law7 55 (809, .iload_n 3, 1) rfl) (cv_dec dkL_law7 56 (810, .iconst 1, 1) rfl) (cv_dec dkL_law7 57 (811, .iadd, 1) rfl) (cv_dec dkL_law7 58 (812, .iaload, 1) rfl) ?_
  refine cv_larg hx hb hX hbl hS (lv_at hl 1 rfl) (lv_at hl 0 rfl) (k := 2) (by omega) hL (by decide) (cv_dec dkL_law7 59 (813, .aload_n 0, 1) rfl) (cv_dec dkL_law7 60 (814, .iload_n 3, 1) rfl) (cv_dec dkL_law7 61 (815, .iconst 2, 1) rfl) (cv_dec dkL_law7 62 (816, .iadd, 1) rfl) (cv_dec dkL_law7 63 (817, .iaload, 1) rfl) ?_
  refine cv_larg hx hb hX hbl hS (lv_at hl 1 rfl) (lv_at hl 0 rfl) (k := 3) (by omega) hL (by decide) (cv_dec dkL_law7 64 (818, .aload_n 0, 1) rfl) (cv_dec dkL_law7 65 (819, .iload_n 3, 1) rfl) (cv_dec dkL_law7 66 (820, .iconst 3, 1) rfl) (cv_dec dkL_law7 67 (821, .iadd, 1) rfl) (cv_dec dkL_law7 68 (822, .iaload, 1) rfl) ?_
  refine cv_lcM X hl.1 (As := [.int (xs (i + 1)), .int (xs (i + 2)), .int (xs (i + 3))]) (np := 3) (rest := [.int x]) h2 rfl (by decide +kernel) rfl wmL_98 wi_yX7_sheet ws_yX7_sheet wc_yX7_sheet (by decide) (by decide) (by omega) (by omega) (cv_dec dkL_law7 69 (823, .invokevirtual 98, 3) rfl) (Nat.le_of_ble_eq_true rfl) rfl (fun v w hv => ?_) H locs hP hM hS
  obtain ⟨rfl, hw⟩ := hv
  intro H locs hP hM hS
  exact lv_icmp_eq (tgt := 1132) hx hb (cv_dec dkL_law8 0 (826, .if_icmp .eq 306, 3) rfl) (by decide) (fun _ => K u w (h3 u w hu hw) _ _ (by omega) (by omega) H locs hP hM hS) (fun hne => absurd rfl hne)
set_option maxHeartbeats 4000000 in
set_option maxRecDepth 100000 in
theorem cv_c_lose {p : Program} {l : Launch} {e : Env} {s : State} {m : MethodId} {below : List Frame} {meth : Method} {c : Code} {b L : Nat} {xs : Nat → Int32} {D : va_G} {cA : Nat → ClassId} {a ab : Nat → Nat} {σ μ : cv_St} {ls : Array Slot} {cells slots i : Nat} (X : cv_LX p s m meth c b L xs D cA a ab) (hl : lv_has ls 4 [(3, .int (nI i)), (0, .ref b), (1, .ref (a 0)), (2, .ref (ab 0))]) (hi : i + 7 ≤ L) (hI : cv_I σ μ) (hc : cells + 1 ≤ 600000) (hs : slots + 3 ≤ 7302250) (K : ∀ u w, cv_I u w → ∀ cells' slots', cells' ≤ cells + 1 → slots' ≤ slots + 3 → cv_LA p l e s m below meth c b D cA a ab u w ls cells' slots' 1132 []) : cv_LA p l e s m below meth c b D cA a ab σ μ ls cells slots 831 [] := by
  obtain ⟨x, P1, P2, h1, h2, h3⟩ := cv_p_lose (xs (i + 1)) hI
  obtain ⟨hx, hb, hr, hml, hown, hts0, hX, hbl, hlocks, hgv⟩ := X.1
  have hL := X.2.1
  intro H locs hP hM hS
  refine lv_aload_n hx hb (cv_dec dkL_law8 3 (831, .aload_n 1, 1) rfl) rfl (lv_at hl 2 rfl) ?_
  refine cv_larg hx hb hX hbl hS (lv_at hl 1 rfl) (lv_at hl 0 rfl) (k := 1) (by omega) hL (by decide) (cv_dec dkL_law8 4 (832, .aload_n 0, 1) rfl) (cv_dec dkL_law8 5 (833, .iload_n 3, 1) rfl) (cv_dec dkL_law8 6 (834, .iconst 1, 1) rfl) (cv_dec dkL_law8 7 (835, .iadd, 1) rfl) (cv_dec dkL_law8 8 (836, .iaload, 1) rfl) ?_
  refine cv_lcC X hl.1 (As := [.int (xs (i + 1))]) (np := 1) (rest := []) h1 rfl (by decide +kernel) rfl wmL_99 wi_yX6_lose ws_yX6_lose wc_yX6_lose (by decide) (by decide) (by omega) (by omega) (cv_dec dkL_law8 9 (837, .invokevirtual 99, 3) rfl) (Nat.le_of_ble_eq_true rfl) rfl (fun v u hv => ?_) H locs hP hM hS
  obtain ⟨rfl, hu⟩ := hv
  intro H locs hP hM hS
  refine lv_aload_n hx hb (cv_dec dkL_law8 10 (840, .aload_n 2, 1) rfl) rfl (lv_at hl 3 rfl) ?_
  refine cv_larg hx hb hX hbl hS (lv_at hl 1 rfl) (lv_at hl 0 rfl) (k := 1) (by omega) hL (by decide) (cv_dec dkL_law8 11 (841, .aload_n 0, 1) rfl) (cv_dec dkL_law8 12 (842, .iload_n 3, 1) rfl) (cv_dec dkL_law8 13 (843, .iconst 1, 1) rfl) (cv_dec dkL_law8 14 (844, .iadd, 1) rfl) (cv_dec dkL_law8 15 (845, .iaload, 1) rfl) ?_
  refine cv_lcM X hl.1 (As := [.int (xs (i + 1))]) (np := 1) (rest := [.int x]) h2 rfl (by decide +kernel) rfl wmL_102 wi_yX7_lose ws_yX7_lose wc_yX7_lose (by decide) (by decide) (by omega) (by omega) (cv_dec dkL_law8 16 (846, .invokevirtual 102, 3) rfl) (Nat.le_of_ble_eq_true rfl) rfl (fun v w hv => ?_) H locs hP hM hS
  obtain ⟨rfl, hw⟩ := hv
  intro H locs hP hM hS
  exact lv_icmp_eq (tgt := 1132) hx hb (cv_dec dkL_law8 17 (849, .if_icmp .eq 283, 3) rfl) (by decide) (fun _ => K u w (h3 u w hu hw) _ _ (by omega) (by omega) H locs hP hM hS) (fun hne => absurd rfl hne)
set_option maxHeartbeats 4000000 in
set_option maxRecDepth 100000 in
theorem cv_c_put {p : Program} {l : Launch} {e : Env} {s : State} {m : MethodId} {below : List Frame} {meth : Method} {c : Code} {b L : Nat} {xs : Nat → Int32} {D : va_G} {cA : Nat → ClassId} {a ab : Nat → Nat} {σ μ : cv_St} {ls : Array Slot} {cells slots i : Nat} (X : cv_LX p s m meth c b L xs D cA a ab) (hl : lv_has ls 4 [(3, .int (nI i)), (0, .ref b), (1, .ref (a 0)), (2, .ref (ab 0))]) (hi : i + 7 ≤ L) (hI : cv_I σ μ) (hc : cells + 1 ≤ 600000) (hs : slots + 3 ≤ 7302250) (K : ∀ u w, cv_I u w → ∀ cells' slots', cells' ≤ cells + 1 → slots' ≤ slots + 3 → cv_LA p l e s m below meth c b D cA a ab u w ls cells' slots' 1132 []) : cv_LA p l e s m below meth c b D cA a ab σ μ ls cells slots 854 [] := by
  obtain ⟨x, P1, P2, h1, h2, h3⟩ := cv_p_put (xs (i + 1)) (xs (i + 2)) (xs (i + 3)) hI
  obtain ⟨hx, hb, hr, hml, hown, hts0, hX, hbl, hlocks, hgv⟩ := X.1
  have hL := X.2.1
  intro H locs hP hM hS
  refine lv_aload_n hx hb (cv_dec dkL_law8 20 (854, .aload_n 1, 1) rfl) rfl (lv_at hl 2 rfl) ?_
  refine cv_larg hx hb hX hbl hS (lv_at hl 1 rfl) (lv_at hl 0 rfl) (k := 1) (by omega) hL (by decide) (cv_dec dkL_law8 21 (855, .aload_n 0, 1) rfl) (cv_dec dkL_law8 22 (856, .iload_n 3, 1) rfl) (cv_dec dkL_law8 23 (857, .iconst 1, 1) rfl) (cv_dec dkL_law8 24 (858, .iadd, 1) rfl) (cv_dec dkL_law8 25 (859, .iaload, 1) rfl) ?_
  refine cv_larg hx hb hX hbl hS (lv_at hl 1 rfl) (lv_at hl 0 rfl) (k := 2) (by omega) hL (by decide) (cv_dec dkL_law8 26 (860, .aload_n 0, 1) rfl) (cv_dec dkL_law8 27 (861, .iload_n 3, 1) rfl) (cv_dec dkL_law8 28 (862, .iconst 2, 1) rfl) (cv_dec dkL_law8 29 (863, .iadd, 1) rfl) (cv_dec dkL_law8 30 (864, .iaload, 1) rfl) ?_
  refine cv_larg hx hb hX hbl hS (lv_at hl 1 rfl) (lv_at hl 0 rfl) (k := 3) (by omega) hL (by decide) (cv_dec dkL_law8 31 (865, .aload_n 0, 1) rfl) (cv_dec dkL_law8 32 (866, .iload_n 3, 1) rfl) (cv_dec dkL_law8 33 (867, .iconst 3, 1) rfl) (cv_dec dkL_law8 34 (868, .iadd, 1) rfl) (cv_dec dkL_law8 35 (869, .iaload, 1) rfl) ?_
  refine cv_lcC X hl.1 (As := [.int (xs (i + 1)), .int (xs (i + 2)), .int (xs (i + 3))]) (np := 3) (rest := []) h1 rfl (by decide +kernel) rfl wmL_103 wi_yX6_put ws_yX6_put wc_yX6_put (by decide) (by decide) (by omega) (by omega) (cv_dec dkL_law8 36 (870, .invokevirtual 103, 3) rfl) (Nat.le_of_ble_eq_true rfl) rfl (fun v u hv => ?_) H locs hP hM hS
  obtain ⟨rfl, hu⟩ := hv
  intro H locs hP hM hS
  refine lv_aload_n hx hb (cv_dec dkL_law8 37 (873, .aload_n 2, 1) rfl) rfl (lv_at hl 3 rfl) ?_
  refine cv_larg hx hb hX hbl hS (lv_at hl 1 rfl) (lv_at hl 0 rfl) (k := 1) (by omega) hL (by decide) (cv_dec dkL_law8 38 (874, .aload_n 0, 1) rfl) (cv_dec dkL_law8 39 (875, .iload_n 3, 1) rfl) (cv_dec dkL_law8 40 (876, .iconst 1, 1) rfl) (cv_dec dkL_law8 41 (877, .iadd, 1) rfl) (cv_dec dkL_law8 42 (878, .iaload, 1) rfl) ?_
  refine cv_larg hx hb hX hbl hS (lv_at hl 1 rfl) (lv_at hl 0 rfl) (k := 2) (by omega) hL (by decide) (cv_dec dkL_law8 43 (879, .aload_n 0, 1) rfl) (cv_dec dkL_law8 44 (880, .iload_n 3, 1) rfl) (cv_dec dkL_law8 45 (881, .iconst 2, 1) rfl) (cv_dec dkL_law8 46 (882, .iadd, 1) rfl) (cv_dec dkL_law8 47 (883, .iaload, 1) rfl) ?_
  refine cv_larg hx hb hX hbl hS (lv_at hl 1 rfl) (lv_at hl 0 rfl) (k := 3) (by omega) hL (by decide) (cv_dec dkL_law8 48 (884, .aload_n 0, 1) rfl) (cv_dec dkL_law8 49 (885, .iload_n 3, 1) rfl) (cv_dec dkL_law8 50 (886, .iconst 3, 1) rfl) (cv_dec dkL_law8 51 (887, .iadd, 1) rfl) (cv_dec dkL_law8 52 (888, .iaload, 1) rfl) ?_
  refine cv_lcM X hl.1 (As := [.int (xs (i + 1)), .int (xs (i + 2)), .int (xs (i + 3))]) (np := 3) (rest := [.int x]) h2 rfl (by decide +kernel) rfl wmL_106 wi_yX7_put ws_yX7_put wc_yX7_put (by decide) (by decide) (by omega) (by omega) (cv_dec dkL_law8 53 (889, .invokevirtual 106, 3) rfl) (Nat.le_of_ble_eq_true rfl) rfl (fun v w hv => ?_) H locs hP hM hS
  obtain ⟨rfl, hw⟩ := hv
  intro H locs hP hM hS
  exact lv_icmp_eq (tgt := 1132) hx hb (cv_dec dkL_law8 54 (892, .if_icmp .eq 240, 3) rfl) (by decide) (fun _ => K u w (h3 u w hu hw) _ _ (by omega) (by omega) H locs hP hM hS) (fun hne => absurd rfl hne)
set_option maxHeartbeats 4000000 in
set_option maxRecDepth 100000 in
theorem cv_c_cell {p : Program} {l : Launch} {e : Env} {s : State} {m : MethodId} {below : List Frame} {meth : Method} {c : Code} {b L : Nat} {xs : Nat → Int32} {D : va_G} {cA : Nat → ClassId} {a ab : Nat → Nat} {σ μ : cv_St} {ls : Array Slot} {cells slots i : Nat} (X : cv_LX p s m meth c b L xs D cA a ab) (hl : lv_has ls 4 [(3, .int (nI i)), (0, .ref b), (1, .ref (a 0)), (2, .ref (ab 0))]) (hi : i + 7 ≤ L) (hI : cv_I σ μ) (hc : cells + 1 ≤ 600000) (hs : slots + 3 ≤ 7302250) (K : ∀ u w, cv_I u w → ∀ cells' slots', cells' ≤ cells + 1 → slots' ≤ slots + 3 → cv_LA p l e s m below meth c b D cA a ab u w ls cells' slots' 1132 []) : cv_LA p l e s m below meth c b D cA a ab σ μ ls cells slots 897 [] := by
  obtain ⟨x, P1, P2, h1, h2, h3⟩ := cv_p_cell (xs (i + 1)) (xs (i + 2)) (xs (i + 3)) hI
  obtain ⟨hx, hb, hr, hml, hown, hts0, hX, hbl, hlocks, hgv⟩ := X.1
  have hL := X.2.1
  intro H locs hP hM hS
  refine lv_aload_n hx hb (cv_dec dkL_law8 57 (897, .aload_n 1, 1) rfl) rfl (lv_at hl 2 rfl) ?_
  refine cv_larg hx hb hX hbl hS (lv_at hl 1 rfl) (lv_at hl 0 rfl) (k := 1) (by omega) hL (by decide) (cv_dec dkL_law8 58 (898, .aload_n 0, 1) rfl) (cv_dec dkL_law8 59 (899, .iload_n 3, 1) rfl) (cv_dec dkL_law8 60 (900, .iconst 1, 1) rfl) (cv_dec dkL_law8 61 (901, .iadd, 1) rfl) (cv_dec dkL_law8 62 (902, .iaload, 1) rfl) ?_
  refine cv_larg hx hb hX hbl hS (lv_at hl 1 rfl) (lv_at hl 0 rfl) (k := 2) (by omega) hL (by decide) (cv_dec dkL_law8 63 (903, .aload_n 0, 1) rfl) (cv_dec dkL_law8 64 (904, .iload_n 3, 1) rfl) (cv_dec dkL_law8 65 (905, .iconst 2, 1) rfl) (cv_dec dkL_law8 66 (906, .iadd, 1) rfl) (cv_dec dkL_law8 67 (907, .iaload, 1) rfl) ?_
  refine cv_larg hx hb hX hbl hS (lv_at hl 1 rfl) (lv_at hl 0 rfl) (k := 3) (by omega) hL (by decide) (cv_dec dkL_law8 68 (908, .aload_n 0, 1) rfl) (cv_dec dkL_law8 69 (909, .iload_n 3, 1) rfl) (cv_dec dkL_law9 0 (910, .iconst 3, 1) rfl) (cv_dec dkL_law9 1 (911, .iadd, 1) rfl) (cv_dec dkL_law9 2 (912, .iaload, 1) rfl) ?_
  refine cv_lcC X hl.1 (As := [.int (xs (i + 1)), .int (xs (i + 2)), .int (xs (i + 3))]) (np := 3) (rest := []) h1 rfl (by decide +kernel) rfl wmL_107 wi_yX6_cell ws_yX6_cell wc_yX6_cell (by decide) (by decide) (by omega) (by omega) (cv_dec dkL_law9 3 (913, .invokevirtual 107, 3) rfl) (Nat.le_of_ble_eq_true rfl) rfl (fun v u hv => ?_) H locs hP hM hS
  obtain ⟨rfl, hu⟩ := hv
  intro H locs hP hM hS
  refine lv_aload_n hx hb (cv_dec dkL_law9 4 (916, .aload_n 2, 1) rfl) rfl (lv_at hl 3 rfl) ?_
  refine cv_larg hx hb hX hbl hS (lv_at hl 1 rfl) (lv_at hl 0 rfl) (k := 1) (by omega) hL (by decide) (cv_dec dkL_law9 5 (917, .aload_n 0, 1) rfl) (cv_dec dkL_law9 6 (918, .iload_n 3, 1) rfl) (cv_dec dkL_law9 7 (919, .iconst 1, 1) rfl) (cv_dec dkL_law9 8 (920, .iadd, 1) rfl) (cv_dec dkL_law9 9 (921, .iaload, 1) rfl) ?_
  refine cv_larg hx hb hX hbl hS (lv_at hl 1 rfl) (lv_at hl 0 rfl) (k := 2) (by omega) hL (by decide) (cv_dec dkL_law9 10 (922, .aload_n 0, 1) rfl) (cv_dec dkL_law9 11 (923, .iload_n 3, 1) rfl) (cv_dec dkL_law9 12 (924, .iconst 2, 1) rfl) (cv_dec dkL_law9 13 (925, .iadd, 1) rfl) (cv_dec dkL_law9 14 (926, .iaload, 1) rfl) ?_
  refine cv_larg hx hb hX hbl hS (lv_at hl 1 rfl) (lv_at hl 0 rfl) (k := 3) (by omega) hL (by decide) (cv_dec dkL_law9 15 (927, .aload_n 0, 1) rfl) (cv_dec dkL_law9 16 (928, .iload_n 3, 1) rfl) (cv_dec dkL_law9 17 (929, .iconst 3, 1) rfl) (cv_dec dkL_law9 18 (930, .iadd, 1) rfl) (cv_dec dkL_law9 19 (931, .iaload, 1) rfl) ?_
  refine cv_lcM X hl.1 (As := [.int (xs (i + 1)), .int (xs (i + 2)), .int (xs (i + 3))]) (np := 3) (rest := [.long x]) h2 rfl (by decide +kernel) rfl wmL_111 wi_yX7_cell ws_yX7_cell wc_yX7_cell (by decide) (by decide) (by omega) (by omega) (cv_dec dkL_law9 20 (932, .invokevirtual 111, 3) rfl) (Nat.le_of_ble_eq_true rfl) rfl (fun v w hv => ?_) H locs hP hM hS
  obtain ⟨rfl, hw⟩ := hv
  intro H locs hP hM hS
  refine W.lcmp hx hb (cv_dec dkL_law9 21 (935, .lcmp, 1) rfl) ?_
  exact lv_if_eq (tgt := 1132) hx hb (cv_dec dkL_law9 22 (936, .ifCond .eq 196, 3) rfl) (by decide) (fun _ => K u w (h3 u w hu hw) _ _ (by omega) (by omega) H locs hP hM hS) (fun hne => absurd ((lg_cmp_eq _ _).mpr rfl) hne)
set_option maxHeartbeats 4000000 in
set_option maxRecDepth 100000 in
theorem cv_c_copy {p : Program} {l : Launch} {e : Env} {s : State} {m : MethodId} {below : List Frame} {meth : Method} {c : Code} {b L : Nat} {xs : Nat → Int32} {D : va_G} {cA : Nat → ClassId} {a ab : Nat → Nat} {σ μ : cv_St} {ls : Array Slot} {cells slots i : Nat} (X : cv_LX p s m meth c b L xs D cA a ab) (hl : lv_has ls 4 [(3, .int (nI i)), (0, .ref b), (1, .ref (a 0)), (2, .ref (ab 0))]) (hi : i + 7 ≤ L) (hI : cv_I σ μ) (hc : cells + 1 ≤ 600000) (hs : slots + 3 ≤ 7302250) (K : ∀ u w, cv_I u w → ∀ cells' slots', cells' ≤ cells + 1 → slots' ≤ slots + 3 → cv_LA p l e s m below meth c b D cA a ab u w ls cells' slots' 1132 []) : cv_LA p l e s m below meth c b D cA a ab σ μ ls cells slots 941 [] := by
  obtain ⟨x, P1, P2, h1, h2, h3⟩ := cv_p_copy (xs (i + 1)) (xs (i + 2)) (xs (i + 3)) (xs (i + 4)) (xs (i + 5)) hI
  obtain ⟨hx, hb, hr, hml, hown, hts0, hX, hbl, hlocks, hgv⟩ := X.1
  have hL := X.2.1
  intro H locs hP hM hS
  refine lv_aload_n hx hb (cv_dec dkL_law9 25 (941, .aload_n 1, 1) rfl) rfl (lv_at hl 2 rfl) ?_
  refine cv_larg hx hb hX hbl hS (lv_at hl 1 rfl) (lv_at hl 0 rfl) (k := 1) (by omega) hL (by decide) (cv_dec dkL_law9 26 (942, .aload_n 0, 1) rfl) (cv_dec dkL_law9 27 (943, .iload_n 3, 1) rfl) (cv_dec dkL_law9 28 (944, .iconst 1, 1) rfl) (cv_dec dkL_law9 29 (945, .iadd, 1) rfl) (cv_dec dkL_law9 30 (946, .iaload, 1) rfl) ?_
  refine cv_larg hx hb hX hbl hS (lv_at hl 1 rfl) (lv_at hl 0 rfl) (k := 2) (by omega) hL (by decide) (cv_dec dkL_law9 31 (947, .aload_n 0, 1) rfl) (cv_dec dkL_law9 32 (948, .iload_n 3, 1) rfl) (cv_dec dkL_law9 33 (949, .iconst 2, 1) rfl) (cv_dec dkL_law9 34 (950, .iadd, 1) rfl) (cv_dec dkL_law9 35 (951, .iaload, 1) rfl) ?_
  refine cv_larg hx hb hX hbl hS (lv_at hl 1 rfl) (lv_at hl 0 rfl) (k := 3) (by omega) hL (by decide) (cv_dec dkL_law9 36 (952, .aload_n 0, 1) rfl) (cv_dec dkL_law9 37 (953, .iload_n 3, 1) rfl) (cv_dec dkL_law9 38 (954, .iconst 3, 1) rfl) (cv_dec dkL_law9 39 (955, .iadd, 1) rfl) (cv_dec dkL_law9 40 (956, .iaload, 1) rfl) ?_
  refine cv_larg hx hb hX hbl hS (lv_at hl 1 rfl) (lv_at hl 0 rfl) (k := 4) (by omega) hL (by decide) (cv_dec dkL_law9 41 (957, .aload_n 0, 1) rfl) (cv_dec dkL_law9 42 (958, .iload_n 3, 1) rfl) (cv_dec dkL_law9 43 (959, .iconst 4, 1) rfl) (cv_dec dkL_law9 44 (960, .iadd, 1) rfl) (cv_dec dkL_law9 45 (961, .iaload, 1) rfl) ?_
  refine cv_larg hx hb hX hbl hS (lv_at hl 1 rfl) (lv_at hl 0 rfl) (k := 5) (by omega) hL (by decide) (cv_dec dkL_law9 46 (962, .aload_n 0, 1) rfl) (cv_dec dkL_law9 47 (963, .iload_n 3, 1) rfl) (cv_dec dkL_law9 48 (964, .iconst 5, 1) rfl) (cv_dec dkL_law9 49 (965, .iadd, 1) rfl) (cv_dec dkL_law9 50 (966, .iaload, 1) rfl) ?_
  refine cv_lcC X hl.1 (As := [.int (xs (i + 1)), .int (xs (i + 2)), .int (xs (i + 3)), .int (xs (i + 4)), .int (xs (i + 5))]) (np := 5) (rest := []) h1 rfl (by decide +kernel) rfl wmL_112 wi_yX6_copy ws_yX6_copy wc_yX6_copy (by decide) (by decide) (by omega) (by omega) (cv_dec dkL_law9 51 (967, .invokevirtual 112, 3) rfl) (Nat.le_of_ble_eq_true rfl) rfl (fun v u hv => ?_) H locs hP hM hS
  obtain ⟨rfl, hu⟩ := hv
  intro H locs hP hM hS
  refine lv_aload_n hx hb (cv_dec dkL_law9 52 (970, .aload_n 2, 1) rfl) rfl (lv_at hl 3 rfl) ?_
  refine cv_larg hx hb hX hbl hS (lv_at hl 1 rfl) (lv_at hl 0 rfl) (k := 1) (by omega) hL (by decide) (cv_dec dkL_law9 53 (971, .aload_n 0, 1) rfl) (cv_dec dkL_law9 54 (972, .iload_n 3, 1) rfl) (cv_dec dkL_law9 55 (973, .iconst 1, 1) rfl) (cv_dec dkL_law9 56 (974, .iadd, 1) rfl) (cv_dec dkL_law9 57 (975, .iaload, 1) rfl) ?_
  refine cv_larg hx hb hX hbl hS (lv_at hl 1 rfl) (lv_at hl 0 rfl) (k := 2) (by omega) hL (by decide) (cv_dec dkL_law9 58 (976, .aload_n 0, 1) rfl) (cv_dec dkL_law9 59 (977, .iload_n 3, 1) rfl) (cv_dec dkL_law9 60 (978, .iconst 2, 1) rfl) (cv_dec dkL_law9 61 (979, .iadd, 1) rfl) (cv_dec dkL_law9 62 (980, .iaload, 1) rfl) ?_
  refine cv_larg hx hb hX hbl hS (lv_at hl 1 rfl) (lv_at hl 0 rfl) (k := 3) (by omega) hL (by decide) (cv_dec dkL_law9 63 (981, .aload_n 0, 1) rfl) (cv_dec dkL_law9 64 (982, .iload_n 3, 1) rfl) (cv_dec dkL_law9 65 (983, .iconst 3, 1) rfl) (cv_dec dkL_law9 66 (984, .iadd, 1) rfl) (cv_dec dkL_law9 67 (985, .iaload, 1) rfl) ?_
  refine cv_larg hx hb hX hbl hS (lv_at hl 1 rfl) (lv_at hl 0 rfl) (k := 4) (by omega) hL (by decide) (cv_dec dkL_law9 68 (986, .aload_n 0, 1) rfl) (cv_dec dkL_law9 69 (987, .iload_n 3, 1) rfl) (cv_dec dkL_law10 0 (988, .iconst 4, 1) rfl) (cv_dec dkL_law10 1 (989, .iadd, 1) rfl) (cv_dec dkL_law10 2 (990, .iaload, 1) rfl) ?_
  refine cv_larg hx hb hX hbl hS (lv_at hl 1 rfl) (lv_at hl 0 rfl) (k := 5) (by omega) hL (by decide) (cv_dec dkL_law10 3 (991, .aload_n 0, 1) rfl) (cv_dec dkL_law10 4 (992, .iload_n 3, 1) rfl) (cv_dec dkL_law10 5 (993, .iconst 5, 1) rfl) (cv_dec dkL_law10 6 (994, .iadd, 1) rfl) (cv_dec dkL_law10 7 (995, .iaload, 1) rfl) ?_
  refine cv_lcM X hl.1 (As := [.int (xs (i + 1)), .int (xs (i + 2)), .int (xs (i + 3)), .int (xs (i + 4)), .int (xs (i + 5))]) (np := 5) (rest := [.int x]) h2 rfl (by decide +kernel) rfl wmL_116 wi_yX7_copy ws_yX7_copy wc_yX7_copy (by decide) (by decide) (by omega) (by omega) (cv_dec dkL_law10 8 (996, .invokevirtual 116, 3) rfl) (Nat.le_of_ble_eq_true rfl) rfl (fun v w hv => ?_) H locs hP hM hS
  obtain ⟨rfl, hw⟩ := hv
  intro H locs hP hM hS
  exact lv_icmp_eq (tgt := 1132) hx hb (cv_dec dkL_law10 9 (999, .if_icmp .eq 133, 3) rfl) (by decide) (fun _ => K u w (h3 u w hu hw) _ _ (by omega) (by omega) H locs hP hM hS) (fun hne => absurd rfl hne)
set_option maxHeartbeats 4000000 in
set_option maxRecDepth 100000 in
theorem cv_c_tell {p : Program} {l : Launch} {e : Env} {s : State} {m : MethodId} {below : List Frame} {meth : Method} {c : Code} {b L : Nat} {xs : Nat → Int32} {D : va_G} {cA : Nat → ClassId} {a ab : Nat → Nat} {σ μ : cv_St} {ls : Array Slot} {cells slots i : Nat} (X : cv_LX p s m meth c b L xs D cA a ab) (hl : lv_has ls 4 [(3, .int (nI i)), (0, .ref b), (1, .ref (a 0)), (2, .ref (ab 0))]) (hi : i + 7 ≤ L) (hI : cv_I σ μ) (hc : cells + 1 ≤ 600000) (hs : slots + 3 ≤ 7302250) (K : ∀ u w, cv_I u w → ∀ cells' slots', cells' ≤ cells + 1 → slots' ≤ slots + 3 → cv_LA p l e s m below meth c b D cA a ab u w ls cells' slots' 1132 []) : cv_LA p l e s m below meth c b D cA a ab σ μ ls cells slots 1004 [] := by
  obtain ⟨x, P1, P2, h1, h2, h3⟩ := cv_p_tell (xs (i + 1)) hI
  obtain ⟨hx, hb, hr, hml, hown, hts0, hX, hbl, hlocks, hgv⟩ := X.1
  have hL := X.2.1
  intro H locs hP hM hS
  refine lv_aload_n hx hb (cv_dec dkL_law10 12 (1004, .aload_n 1, 1) rfl) rfl (lv_at hl 2 rfl) ?_
  refine cv_larg hx hb hX hbl hS (lv_at hl 1 rfl) (lv_at hl 0 rfl) (k := 1) (by omega) hL (by decide) (cv_dec dkL_law10 13 (1005, .aload_n 0, 1) rfl) (cv_dec dkL_law10 14 (1006, .iload_n 3, 1) rfl) (cv_dec dkL_law10 15 (1007, .iconst 1, 1) rfl) (cv_dec dkL_law10 16 (1008, .iadd, 1) rfl) (cv_dec dkL_law10 17 (1009, .iaload, 1) rfl) ?_
  refine cv_lcC X hl.1 (As := [.int (xs (i + 1))]) (np := 1) (rest := []) h1 rfl (by decide +kernel) rfl wmL_117 wi_yX6_tell ws_yX6_tell wc_yX6_tell (by decide) (by decide) (by omega) (by omega) (cv_dec dkL_law10 18 (1010, .invokevirtual 117, 3) rfl) (Nat.le_of_ble_eq_true rfl) rfl (fun v u hv => ?_) H locs hP hM hS
  obtain ⟨rfl, hu⟩ := hv
  intro H locs hP hM hS
  refine lv_aload_n hx hb (cv_dec dkL_law10 19 (1013, .aload_n 2, 1) rfl) rfl (lv_at hl 3 rfl) ?_
  refine cv_larg hx hb hX hbl hS (lv_at hl 1 rfl) (lv_at hl 0 rfl) (k := 1) (by omega) hL (by decide) (cv_dec dkL_law10 20 (1014, .aload_n 0, 1) rfl) (cv_dec dkL_law10 21 (1015, .iload_n 3, 1) rfl) (cv_dec dkL_law10 22 (1016, .iconst 1, 1) rfl) (cv_dec dkL_law10 23 (1017, .iadd, 1) rfl) (cv_dec dkL_law10 24 (1018, .iaload, 1) rfl) ?_
  refine cv_lcM X hl.1 (As := [.int (xs (i + 1))]) (np := 1) (rest := [.int x]) h2 rfl (by decide +kernel) rfl wmL_120 wi_yX7_tell ws_yX7_tell wc_yX7_tell (by decide) (by decide) (by omega) (by omega) (cv_dec dkL_law10 25 (1019, .invokevirtual 120, 3) rfl) (Nat.le_of_ble_eq_true rfl) rfl (fun v w hv => ?_) H locs hP hM hS
  obtain ⟨rfl, hw⟩ := hv
  intro H locs hP hM hS
  exact lv_icmp_eq (tgt := 1132) hx hb (cv_dec dkL_law10 26 (1022, .if_icmp .eq 110, 3) rfl) (by decide) (fun _ => K u w (h3 u w hu hw) _ _ (by omega) (by omega) H locs hP hM hS) (fun hne => absurd rfl hne)
set_option maxHeartbeats 4000000 in
set_option maxRecDepth 100000 in
theorem cv_c_mark {p : Program} {l : Launch} {e : Env} {s : State} {m : MethodId} {below : List Frame} {meth : Method} {c : Code} {b L : Nat} {xs : Nat → Int32} {D : va_G} {cA : Nat → ClassId} {a ab : Nat → Nat} {σ μ : cv_St} {ls : Array Slot} {cells slots i : Nat} (X : cv_LX p s m meth c b L xs D cA a ab) (hl : lv_has ls 4 [(3, .int (nI i)), (0, .ref b), (1, .ref (a 0)), (2, .ref (ab 0))]) (hi : i + 7 ≤ L) (hI : cv_I σ μ) (hc : cells + 1 ≤ 600000) (hs : slots + 3 ≤ 7302250) (K : ∀ u w, cv_I u w → ∀ cells' slots', cells' ≤ cells + 1 → slots' ≤ slots + 3 → cv_LA p l e s m below meth c b D cA a ab u w ls cells' slots' 1132 []) : cv_LA p l e s m below meth c b D cA a ab σ μ ls cells slots 1027 [] := by
  obtain ⟨x, P1, P2, h1, h2, h3⟩ := cv_p_mark (xs (i + 1)) hI
  obtain ⟨hx, hb, hr, hml, hown, hts0, hX, hbl, hlocks, hgv⟩ := X.1
  have hL := X.2.1
  intro H locs hP hM hS
  refine lv_aload_n hx hb (cv_dec dkL_law10 29 (1027, .aload_n 1, 1) rfl) rfl (lv_at hl 2 rfl) ?_
  refine cv_larg hx hb hX hbl hS (lv_at hl 1 rfl) (lv_at hl 0 rfl) (k := 1) (by omega) hL (by decide) (cv_dec dkL_law10 30 (1028, .aload_n 0, 1) rfl) (cv_dec dkL_law10 31 (1029, .iload_n 3, 1) rfl) (cv_dec dkL_law10 32 (1030, .iconst 1, 1) rfl) (cv_dec dkL_law10 33 (1031, .iadd, 1) rfl) (cv_dec dkL_law10 34 (1032, .iaload, 1) rfl) ?_
  refine cv_lcC X hl.1 (As := [.int (xs (i + 1))]) (np := 1) (rest := []) h1 rfl (by decide +kernel) rfl wmL_121 wi_yX6_mark ws_yX6_mark wc_yX6_mark (by decide) (by decide) (by omega) (by omega) (cv_dec dkL_law10 35 (1033, .invokevirtual 121, 3) rfl) (Nat.le_of_ble_eq_true rfl) rfl (fun v u hv => ?_) H locs hP hM hS
  obtain ⟨rfl, hu⟩ := hv
  intro H locs hP hM hS
  refine lv_aload_n hx hb (cv_dec dkL_law10 36 (1036, .aload_n 2, 1) rfl) rfl (lv_at hl 3 rfl) ?_
  refine cv_larg hx hb hX hbl hS (lv_at hl 1 rfl) (lv_at hl 0 rfl) (k := 1) (by omega) hL (by decide) (cv_dec dkL_law10 37 (1037, .aload_n 0, 1) rfl) (cv_dec dkL_law10 38 (1038, .iload_n 3, 1) rfl) (cv_dec dkL_law10 39 (1039, .iconst 1, 1) rfl) (cv_dec dkL_law10 40 (1040, .iadd, 1) rfl) (cv_dec dkL_law10 41 (1041, .iaload, 1) rfl) ?_
  refine cv_lcM X hl.1 (As := [.int (xs (i + 1))]) (np := 1) (rest := [.int x]) h2 rfl (by decide +kernel) rfl wmL_124 wi_yX7_mark ws_yX7_mark wc_yX7_mark (by decide) (by decide) (by omega) (by omega) (cv_dec dkL_law10 42 (1042, .invokevirtual 124, 3) rfl) (Nat.le_of_ble_eq_true rfl) rfl (fun v w hv => ?_) H locs hP hM hS
  obtain ⟨rfl, hw⟩ := hv
  intro H locs hP hM hS
  exact lv_icmp_eq (tgt := 1132) hx hb (cv_dec dkL_law10 43 (1045, .if_icmp .eq 87, 3) rfl) (by decide) (fun _ => K u w (h3 u w hu hw) _ _ (by omega) (by omega) H locs hP hM hS) (fun hne => absurd rfl hne)
set_option maxHeartbeats 4000000 in
set_option maxRecDepth 100000 in
theorem cv_c_as {p : Program} {l : Launch} {e : Env} {s : State} {m : MethodId} {below : List Frame} {meth : Method} {c : Code} {b L : Nat} {xs : Nat → Int32} {D : va_G} {cA : Nat → ClassId} {a ab : Nat → Nat} {σ μ : cv_St} {ls : Array Slot} {cells slots i : Nat} (X : cv_LX p s m meth c b L xs D cA a ab) (hl : lv_has ls 4 [(3, .int (nI i)), (0, .ref b), (1, .ref (a 0)), (2, .ref (ab 0))]) (hi : i + 7 ≤ L) (hI : cv_I σ μ) (hc : cells + 1 ≤ 600000) (hs : slots + 3 ≤ 7302250) (K : ∀ u w, cv_I u w → ∀ cells' slots', cells' ≤ cells + 1 → slots' ≤ slots + 3 → cv_LA p l e s m below meth c b D cA a ab u w ls cells' slots' 1132 []) : cv_LA p l e s m below meth c b D cA a ab σ μ ls cells slots 1050 [] := by
  obtain ⟨x, P1, P2, h1, h2, h3⟩ := cv_p_as (xs (i + 1)) (xs (i + 2)) hI
  obtain ⟨hx, hb, hr, hml, hown, hts0, hX, hbl, hlocks, hgv⟩ := X.1
  have hL := X.2.1
  intro H locs hP hM hS
  refine lv_aload_n hx hb (cv_dec dkL_law10 46 (1050, .aload_n 1, 1) rfl) rfl (lv_at hl 2 rfl) ?_
  refine cv_larg hx hb hX hbl hS (lv_at hl 1 rfl) (lv_at hl 0 rfl) (k := 1) (by omega) hL (by decide) (cv_dec dkL_law10 47 (1051, .aload_n 0, 1) rfl) (cv_dec dkL_law10 48 (1052, .iload_n 3, 1) rfl) (cv_dec dkL_law10 49 (1053, .iconst 1, 1) rfl) (cv_dec dkL_law10 50 (1054, .iadd, 1) rfl) (cv_dec dkL_law10 51 (1055, .iaload, 1) rfl) ?_
  refine cv_larg hx hb hX hbl hS (lv_at hl 1 rfl) (lv_at hl 0 rfl) (k := 2) (by omega) hL (by decide) (cv_dec dkL_law10 52 (1056, .aload_n 0, 1) rfl) (cv_dec dkL_law10 53 (1057, .iload_n 3, 1) rfl) (cv_dec dkL_law10 54 (1058, .iconst 2, 1) rfl) (cv_dec dkL_law10 55 (1059, .iadd, 1) rfl) (cv_dec dkL_law10 56 (1060, .iaload, 1) rfl) ?_
  refine cv_lcC X hl.1 (As := [.int (xs (i + 1)), .int (xs (i + 2))]) (np := 2) (rest := []) h1 rfl (by decide +kernel) rfl wmL_125 wi_yX6_as ws_yX6_as wc_yX6_as (by decide) (by decide) (by omega) (by omega) (cv_dec dkL_law10 57 (1061, .invokevirtual 125, 3) rfl) (Nat.le_of_ble_eq_true rfl) rfl (fun v u hv => ?_) H locs hP hM hS
  obtain ⟨rfl, hu⟩ := hv
  intro H locs hP hM hS
  refine lv_aload_n hx hb (cv_dec dkL_law10 58 (1064, .aload_n 2, 1) rfl) rfl (lv_at hl 3 rfl) ?_
  refine cv_larg hx hb hX hbl hS (lv_at hl 1 rfl) (lv_at hl 0 rfl) (k := 1) (by omega) hL (by decide) (cv_dec dkL_law10 59 (1065, .aload_n 0, 1) rfl) (cv_dec dkL_law10 60 (1066, .iload_n 3, 1) rfl) (cv_dec dkL_law10 61 (1067, .iconst 1, 1) rfl) (cv_dec dkL_law10 62 (1068, .iadd, 1) rfl) (cv_dec dkL_law10 63 (1069, .iaload, 1) rfl) ?_
  refine cv_larg hx hb hX hbl hS (lv_at hl 1 rfl) (lv_at hl 0 rfl) (k := 2) (by omega) hL (by decide) (cv_dec dkL_law10 64 (1070, .aload_n 0, 1) rfl) (cv_dec dkL_law10 65 (1071, .iload_n 3, 1) rfl) (cv_dec dkL_law10 66 (1072, .iconst 2, 1) rfl) (cv_dec dkL_law10 67 (1073, .iadd, 1) rfl) (cv_dec dkL_law10 68 (1074, .iaload, 1) rfl) ?_
  refine cv_lcM X hl.1 (As := [.int (xs (i + 1)), .int (xs (i + 2))]) (np := 2) (rest := [.int x]) h2 rfl (by decide +kernel) rfl wmL_128 wi_yX7_as ws_yX7_as wc_yX7_as (by decide) (by decide) (by omega) (by omega) (cv_dec dkL_law10 69 (1075, .invokevirtual 128, 3) rfl) (Nat.le_of_ble_eq_true rfl) rfl (fun v w hv => ?_) H locs hP hM hS
  obtain ⟨rfl, hw⟩ := hv
  intro H locs hP hM hS
  exact lv_icmp_eq (tgt := 1132) hx hb (cv_dec dkL_law11 0 (1078, .if_icmp .eq 54, 3) rfl) (by decide) (fun _ => K u w (h3 u w hu hw) _ _ (by omega) (by omega) H locs hP hM hS) (fun hne => absurd rfl hne)
set_option maxHeartbeats 4000000 in
set_option maxRecDepth 100000 in
theorem cv_c_trace {p : Program} {l : Launch} {e : Env} {s : State} {m : MethodId} {below : List Frame} {meth : Method} {c : Code} {b L : Nat} {xs : Nat → Int32} {D : va_G} {cA : Nat → ClassId} {a ab : Nat → Nat} {σ μ : cv_St} {ls : Array Slot} {cells slots i : Nat} (X : cv_LX p s m meth c b L xs D cA a ab) (hl : lv_has ls 4 [(3, .int (nI i)), (0, .ref b), (1, .ref (a 0)), (2, .ref (ab 0))]) (hi : i + 7 ≤ L) (hI : cv_I σ μ) (hc : cells + 1 ≤ 600000) (hs : slots + 3 ≤ 7302250) (K : ∀ u w, cv_I u w → ∀ cells' slots', cells' ≤ cells + 1 → slots' ≤ slots + 3 → cv_LA p l e s m below meth c b D cA a ab u w ls cells' slots' 1132 []) : cv_LA p l e s m below meth c b D cA a ab σ μ ls cells slots 1083 [] := by
  obtain ⟨x, P1, P2, h1, h2, h3⟩ := cv_p_trace  hI
  obtain ⟨hx, hb, hr, hml, hown, hts0, hX, hbl, hlocks, hgv⟩ := X.1
  have hL := X.2.1
  intro H locs hP hM hS
  refine lv_aload_n hx hb (cv_dec dkL_law11 3 (1083, .aload_n 1, 1) rfl) rfl (lv_at hl 2 rfl) ?_
  refine cv_lcC X hl.1 (As := []) (np := 0) (rest := []) h1 rfl (by decide +kernel) rfl wmL_129 wi_yX6_trace ws_yX6_trace wc_yX6_trace (by decide) (by decide) (by omega) (by omega) (cv_dec dkL_law11 4 (1084, .invokevirtual 129, 3) rfl) (Nat.le_of_ble_eq_true rfl) rfl (fun v u hv => ?_) H locs hP hM hS
  obtain ⟨rfl, hu⟩ := hv
  intro H locs hP hM hS
  refine lv_aload_n hx hb (cv_dec dkL_law11 5 (1087, .aload_n 2, 1) rfl) rfl (lv_at hl 3 rfl) ?_
  refine cv_lcM X hl.1 (As := []) (np := 0) (rest := [.int x]) h2 rfl (by decide +kernel) rfl wmL_133 wi_yX7_trace ws_yX7_trace wc_yX7_trace (by decide) (by decide) (by omega) (by omega) (cv_dec dkL_law11 6 (1088, .invokevirtual 133, 3) rfl) (Nat.le_of_ble_eq_true rfl) rfl (fun v w hv => ?_) H locs hP hM hS
  obtain ⟨rfl, hw⟩ := hv
  intro H locs hP hM hS
  exact lv_icmp_eq (tgt := 1132) hx hb (cv_dec dkL_law11 7 (1091, .if_icmp .eq 41, 3) rfl) (by decide) (fun _ => K u w (h3 u w hu hw) _ _ (by omega) (by omega) H locs hP hM hS) (fun hne => absurd rfl hne)
set_option maxHeartbeats 4000000 in
set_option maxRecDepth 100000 in
theorem cv_c_fault {p : Program} {l : Launch} {e : Env} {s : State} {m : MethodId} {below : List Frame} {meth : Method} {c : Code} {b L : Nat} {xs : Nat → Int32} {D : va_G} {cA : Nat → ClassId} {a ab : Nat → Nat} {σ μ : cv_St} {ls : Array Slot} {cells slots i : Nat} (X : cv_LX p s m meth c b L xs D cA a ab) (hl : lv_has ls 4 [(3, .int (nI i)), (0, .ref b), (1, .ref (a 0)), (2, .ref (ab 0))]) (hi : i + 7 ≤ L) (hI : cv_I σ μ) (hc : cells + 1 ≤ 600000) (hs : slots + 3 ≤ 7302250) (K : ∀ u w, cv_I u w → ∀ cells' slots', cells' ≤ cells + 1 → slots' ≤ slots + 3 → cv_LA p l e s m below meth c b D cA a ab u w ls cells' slots' 1132 []) : cv_LA p l e s m below meth c b D cA a ab σ μ ls cells slots 1096 [] := by
  obtain ⟨x, P1, P2, h1, h2, h3⟩ := cv_p_fault  hI
  obtain ⟨hx, hb, hr, hml, hown, hts0, hX, hbl, hlocks, hgv⟩ := X.1
  have hL := X.2.1
  intro H locs hP hM hS
  refine lv_aload_n hx hb (cv_dec dkL_law11 10 (1096, .aload_n 1, 1) rfl) rfl (lv_at hl 2 rfl) ?_
  refine cv_lcC X hl.1 (As := []) (np := 0) (rest := []) h1 rfl (by decide +kernel) rfl wmL_134 wi_yX6_fault ws_yX6_fault wc_yX6_fault (by decide) (by decide) (by omega) (by omega) (cv_dec dkL_law11 11 (1097, .invokevirtual 134, 3) rfl) (Nat.le_of_ble_eq_true rfl) rfl (fun v u hv => ?_) H locs hP hM hS
  obtain ⟨rfl, hu⟩ := hv
  intro H locs hP hM hS
  refine lv_aload_n hx hb (cv_dec dkL_law11 12 (1100, .aload_n 2, 1) rfl) rfl (lv_at hl 3 rfl) ?_
  refine cv_lcM X hl.1 (As := []) (np := 0) (rest := [.int x]) h2 rfl (by decide +kernel) rfl wmL_137 wi_yX7_fault ws_yX7_fault wc_yX7_fault (by decide) (by decide) (by omega) (by omega) (cv_dec dkL_law11 13 (1101, .invokevirtual 137, 3) rfl) (Nat.le_of_ble_eq_true rfl) rfl (fun v w hv => ?_) H locs hP hM hS
  obtain ⟨rfl, hw⟩ := hv
  intro H locs hP hM hS
  exact lv_icmp_eq (tgt := 1132) hx hb (cv_dec dkL_law11 14 (1104, .if_icmp .eq 28, 3) rfl) (by decide) (fun _ => K u w (h3 u w hu hw) _ _ (by omega) (by omega) H locs hP hM hS) (fun hne => absurd rfl hne)
set_option maxHeartbeats 4000000 in
set_option maxRecDepth 100000 in
theorem cv_c_many {p : Program} {l : Launch} {e : Env} {s : State} {m : MethodId} {below : List Frame} {meth : Method} {c : Code} {b L : Nat} {xs : Nat → Int32} {D : va_G} {cA : Nat → ClassId} {a ab : Nat → Nat} {σ μ : cv_St} {ls : Array Slot} {cells slots i : Nat} (X : cv_LX p s m meth c b L xs D cA a ab) (hl : lv_has ls 4 [(3, .int (nI i)), (0, .ref b), (1, .ref (a 0)), (2, .ref (ab 0))]) (hi : i + 7 ≤ L) (hI : cv_I σ μ) (hc : cells + 1 ≤ 600000) (hs : slots + 3 ≤ 7302250) (K : ∀ u w, cv_I u w → ∀ cells' slots', cells' ≤ cells + 1 → slots' ≤ slots + 3 → cv_LA p l e s m below meth c b D cA a ab u w ls cells' slots' 1132 []) : cv_LA p l e s m below meth c b D cA a ab σ μ ls cells slots 1109 [] := by
  obtain ⟨x, P1, P2, h1, h2, h3⟩ := cv_p_many (xs (i + 1)) hI
  obtain ⟨hx, hb, hr, hml, hown, hts0, hX, hbl, hlocks, hgv⟩ := X.1
  have hL := X.2.1
  intro H locs hP hM hS
  refine lv_aload_n hx hb (cv_dec dkL_law11 17 (1109, .aload_n 1, 1) rfl) rfl (lv_at hl 2 rfl) ?_
  refine cv_larg hx hb hX hbl hS (lv_at hl 1 rfl) (lv_at hl 0 rfl) (k := 1) (by omega) hL (by decide) (cv_dec dkL_law11 18 (1110, .aload_n 0, 1) rfl) (cv_dec dkL_law11 19 (1111, .iload_n 3, 1) rfl) (cv_dec dkL_law11 20 (1112, .iconst 1, 1) rfl) (cv_dec dkL_law11 21 (1113, .iadd, 1) rfl) (cv_dec dkL_law11 22 (1114, .iaload, 1) rfl) ?_
  refine cv_lcC X hl.1 (As := [.int (xs (i + 1))]) (np := 1) (rest := []) h1 rfl (by decide +kernel) rfl wmL_138 wi_yX6_many ws_yX6_many wc_yX6_many (by decide) (by decide) (by omega) (by omega) (cv_dec dkL_law11 23 (1115, .invokevirtual 138, 3) rfl) (Nat.le_of_ble_eq_true rfl) rfl (fun v u hv => ?_) H locs hP hM hS
  obtain ⟨rfl, hu⟩ := hv
  intro H locs hP hM hS
  refine lv_aload_n hx hb (cv_dec dkL_law11 24 (1118, .aload_n 2, 1) rfl) rfl (lv_at hl 3 rfl) ?_
  refine cv_larg hx hb hX hbl hS (lv_at hl 1 rfl) (lv_at hl 0 rfl) (k := 1) (by omega) hL (by decide) (cv_dec dkL_law11 25 (1119, .aload_n 0, 1) rfl) (cv_dec dkL_law11 26 (1120, .iload_n 3, 1) rfl) (cv_dec dkL_law11 27 (1121, .iconst 1, 1) rfl) (cv_dec dkL_law11 28 (1122, .iadd, 1) rfl) (cv_dec dkL_law11 29 (1123, .iaload, 1) rfl) ?_
  refine cv_lcM X hl.1 (As := [.int (xs (i + 1))]) (np := 1) (rest := [.int x]) h2 rfl (by decide +kernel) rfl wmL_141 wi_yX7_many ws_yX7_many wc_yX7_many (by decide) (by decide) (by omega) (by omega) (cv_dec dkL_law11 30 (1124, .invokevirtual 141, 3) rfl) (Nat.le_of_ble_eq_true rfl) rfl (fun v w hv => ?_) H locs hP hM hS
  obtain ⟨rfl, hw⟩ := hv
  intro H locs hP hM hS
  exact lv_icmp_eq (tgt := 1132) hx hb (cv_dec dkL_law11 31 (1127, .if_icmp .eq 5, 3) rfl) (by decide) (fun _ => K u w (h3 u w hu hw) _ _ (by omega) (by omega) H locs hP hM hS) (fun hne => absurd rfl hne)
