set_option maxHeartbeats 4000000 in
set_option maxRecDepth 100000 in
/-- THE LAW'S LOOP -/
theorem cv_lloop {p : Program} {l : Launch} {e : Env} {s : State} {m : MethodId} {below : List Frame} {meth : Method} {c : Code} {b L : Nat} {xs : Nat → Int32} {D : va_G} {cA : Nat → ClassId} {a ab : Nat → Nat} (X : cv_LX p s m meth c b L xs D cA a ab) : ∀ (r i : Nat), L ≤ i + r → i ≤ 455 → ∀ (σ μ : cv_St) (cells slots : Nat), cv_I σ μ → cells + r ≤ 600000 → slots + 3 * r ≤ 7302250 → ∀ (ls : Array Slot), lv_has ls 4 [(3, .int (nI i)), (0, .ref b), (1, .ref (a 0)), (2, .ref (ab 0))] → cv_LA p l e s m below meth c b D cA a ab σ μ ls cells slots 18 [] := by
  obtain ⟨hx, hb, hr, hml, hown, hts0, hX, hbl, hlocks, hgv⟩ := X.1
  have hL := X.2.1
  intro r
  induction r with
  | zero =>
    intro i h1 h2 σ μ cells slots hI hc hs ls hl H locs hP hM hS
    refine lv_iload_n hx hb (cv_dec dkL_law0 10 (18, .iload_n 3, 1) rfl) rfl (lv_at hl 0 rfl) ?_
    refine lv_aload_n hx hb (cv_dec dkL_law0 11 (19, .aload_n 0, 1) rfl) rfl (lv_at hl 1 rfl) ?_
    refine va_slen hx hb hX hbl (Nat.not_le.mpr hbl) hS (cv_dec dkL_law0 12 (20, .arraylength, 1) rfl) ?_
    refine lv_bipush (v := nI 7) hx hb (cv_dec dkL_law0 13 (21, .bipush 7, 2) rfl) (by decide) ?_
    refine lv_isub hx hb (cv_dec dkL_law0 14 (23, .isub, 1) rfl) ?_
    refine lv_icmp_gt (tgt := 1138) hx hb (cv_dec dkL_law0 15 (24, .if_icmp .gt 1114, 3) rfl) (by decide) (fun _ => ?_) (fun h => absurd ((cv_l7 hL (by omega)).mpr (by omega)) h)
    refine lv_iconst (v := 1) hx hb (cv_dec dkL_law11 36 (1138, .iconst 1, 1) rfl) (by decide) ?_
    refine va_forget (fun q hq => hS.2.2 q hq) ?_
    refine W.widen (k := 600000) (n := 7302250) (by omega) (by omega) ?_
    exact lw_ret hx hb hr hlocks (cv_dec dkL_law11 37 (1139, .ireturn, 1) rfl)
  | succ r ih =>
    intro i h1 h2 σ μ cells slots hI hc hs ls hl H locs hP hM hS
    refine lv_iload_n hx hb (cv_dec dkL_law0 10 (18, .iload_n 3, 1) rfl) rfl (lv_at hl 0 rfl) ?_
    refine lv_aload_n hx hb (cv_dec dkL_law0 11 (19, .aload_n 0, 1) rfl) rfl (lv_at hl 1 rfl) ?_
    refine va_slen hx hb hX hbl (Nat.not_le.mpr hbl) hS (cv_dec dkL_law0 12 (20, .arraylength, 1) rfl) ?_
    refine lv_bipush (v := nI 7) hx hb (cv_dec dkL_law0 13 (21, .bipush 7, 2) rfl) (by decide) ?_
    refine lv_isub hx hb (cv_dec dkL_law0 14 (23, .isub, 1) rfl) ?_
    refine lv_icmp_gt (tgt := 1138) hx hb (cv_dec dkL_law0 15 (24, .if_icmp .gt 1114, 3) rfl) (by decide) (fun _ => ?_) (fun h => ?_)
    · refine lv_iconst (v := 1) hx hb (cv_dec dkL_law11 36 (1138, .iconst 1, 1) rfl) (by decide) ?_
      refine va_forget (fun q hq => hS.2.2 q hq) ?_
      refine W.widen (k := 600000) (n := 7302250) (by omega) (by omega) ?_
      exact lw_ret hx hb hr hlocks (cv_dec dkL_law11 37 (1139, .ireturn, 1) rfl)
    · have hi : i + 7 ≤ L := by
        rcases Nat.lt_or_ge L (i + 7) with q | q
        · exact absurd ((cv_l7 hL (by omega)).mpr q) h
        · exact q
      have K : ∀ u w, cv_I u w → ∀ cells' slots', cells' ≤ cells + 1 → slots' ≤ slots + 3 → cv_LA p l e s m below meth c b D cA a ab u w ls cells' slots' 1132 [] := by
        intro u w hI2 c2 s2 hc2 hs2 H locs hP hM hS
        refine lv_iinc (v := nI (i + 7)) (lv' := [(3, .int (nI (i + 7))), (0, .ref b), (1, .ref (a 0)), (2, .ref (ab 0))]) hx hb (cv_dec dkL_law11 34 (1132, .iinc 3 7, 3) rfl) hl (k := 0) rfl (by rw [← nI_add]; rfl) (by decide) rfl (fun ls hl => ?_)
        refine lv_goto (tgt := 18) hx hb (cv_dec dkL_law11 35 (1135, .goto (-1117), 3) rfl) (by decide) ?_
        exact ih (i + 7) (by omega) (by omega) u w c2 s2 hI2 (by omega) (by omega) ls hl H locs hP hM hS
      refine lv_aload_n hx hb (cv_dec dkL_law0 16 (27, .aload_n 0, 1) rfl) rfl (lv_at hl 1 rfl) ?_
      refine lv_iload_n hx hb (cv_dec dkL_law0 17 (28, .iload_n 3, 1) rfl) rfl (lv_at hl 0 rfl) ?_
      refine va_sld hx hb hX hbl (Nat.not_le.mpr hbl) hS (vp_in_nI (n := i) (N := L) (by omega) (by omega)) (cv_dec dkL_law0 18 (29, .iaload, 1) rfl) ?_
      rw [nI_clamp (by omega)]
      refine lv_bipush (v := nI 31) hx hb (cv_dec dkL_law0 19 (30, .bipush 31, 2) rfl) (by decide) ?_
      refine lv_iand hx hb (cv_dec dkL_law0 20 (32, .iand, 1) rfl) ?_
      obtain ⟨t, ht, et⟩ := cv_and31 (xs i)
      rw [et]
      match t, ht with
      | 0, _ => exact lv_tableIn (tgt := 168) hx hb (cv_dec dkL_law0 21 (33, .tableswitch 1099 0 29 #[135, 188, 221, 254, 287, 310, 333, 356, 431, 454, 477, 510, 543, 576, 599, 622, 645, 668, 701, 755, 798, 821, 864, 908, 971, 994, 1017, 1050, 1063, 1076], 135) rfl) (by decide) (by decide) rfl (by decide) (cv_c_land X hl hi hI (by omega) (by omega) K H locs hP hM hS)
      | 1, _ => exact lv_tableIn (tgt := 221) hx hb (cv_dec dkL_law0 21 (33, .tableswitch 1099 0 29 #[135, 188, 221, 254, 287, 310, 333, 356, 431, 454, 477, 510, 543, 576, 599, 622, 645, 668, 701, 755, 798, 821, 864, 908, 971, 994, 1017, 1050, 1063, 1076], 135) rfl) (by decide) (by decide) rfl (by decide) (cv_c_ofPass X hl hi hI (by omega) (by omega) K H locs hP hM hS)
      | 2, _ => exact lv_tableIn (tgt := 254) hx hb (cv_dec dkL_law0 21 (33, .tableswitch 1099 0 29 #[135, 188, 221, 254, 287, 310, 333, 356, 431, 454, 477, 510, 543, 576, 599, 622, 645, 668, 701, 755, 798, 821, 864, 908, 971, 994, 1017, 1050, 1063, 1076], 135) rfl) (by decide) (by decide) rfl (by decide) (cv_c_snow X hl hi hI (by omega) (by omega) K H locs hP hM hS)
      | 3, _ => exact lv_tableIn (tgt := 287) hx hb (cv_dec dkL_law0 21 (33, .tableswitch 1099 0 29 #[135, 188, 221, 254, 287, 310, 333, 356, 431, 454, 477, 510, 543, 576, 599, 622, 645, 668, 701, 755, 798, 821, 864, 908, 971, 994, 1017, 1050, 1063, 1076], 135) rfl) (by decide) (by decide) rfl (by decide) (cv_c_give X hl hi hI (by omega) (by omega) K H locs hP hM hS)
      | 4, _ => exact lv_tableIn (tgt := 320) hx hb (cv_dec dkL_law0 21 (33, .tableswitch 1099 0 29 #[135, 188, 221, 254, 287, 310, 333, 356, 431, 454, 477, 510, 543, 576, 599, 622, 645, 668, 701, 755, 798, 821, 864, 908, 971, 994, 1017, 1050, 1063, 1076], 135) rfl) (by decide) (by decide) rfl (by decide) (cv_c_open X hl hi hI (by omega) (by omega) K H locs hP hM hS)
      | 5, _ => exact lv_tableIn (tgt := 343) hx hb (cv_dec dkL_law0 21 (33, .tableswitch 1099 0 29 #[135, 188, 221, 254, 287, 310, 333, 356, 431, 454, 477, 510, 543, 576, 599, 622, 645, 668, 701, 755, 798, 821, 864, 908, 971, 994, 1017, 1050, 1063, 1076], 135) rfl) (by decide) (by decide) rfl (by decide) (cv_c_soonest X hl hi hI (by omega) (by omega) K H locs hP hM hS)
      | 6, _ => exact lv_tableIn (tgt := 366) hx hb (cv_dec dkL_law0 21 (33, .tableswitch 1099 0 29 #[135, 188, 221, 254, 287, 310, 333, 356, 431, 454, 477, 510, 543, 576, 599, 622, 645, 668, 701, 755, 798, 821, 864, 908, 971, 994, 1017, 1050, 1063, 1076], 135) rfl) (by decide) (by decide) rfl (by decide) (cv_c_holes X hl hi hI (by omega) (by omega) K H locs hP hM hS)
      | 7, _ => exact lv_tableIn (tgt := 389) hx hb (cv_dec dkL_law0 21 (33, .tableswitch 1099 0 29 #[135, 188, 221, 254, 287, 310, 333, 356, 431, 454, 477, 510, 543, 576, 599, 622, 645, 668, 701, 755, 798, 821, 864, 908, 971, 994, 1017, 1050, 1063, 1076], 135) rfl) (by decide) (by decide) rfl (by decide) (cv_c_way X hl hi hI (by omega) (by omega) K H locs hP hM hS)
      | 8, _ => exact lv_tableIn (tgt := 464) hx hb (cv_dec dkL_law0 21 (33, .tableswitch 1099 0 29 #[135, 188, 221, 254, 287, 310, 333, 356, 431, 454, 477, 510, 543, 576, 599, 622, 645, 668, 701, 755, 798, 821, 864, 908, 971, 994, 1017, 1050, 1063, 1076], 135) rfl) (by decide) (by decide) rfl (by decide) (cv_c_last X hl hi hI (by omega) (by omega) K H locs hP hM hS)
      | 9, _ => exact lv_tableIn (tgt := 487) hx hb (cv_dec dkL_law0 21 (33, .tableswitch 1099 0 29 #[135, 188, 221, 254, 287, 310, 333, 356, 431, 454, 477, 510, 543, 576, 599, 622, 645, 668, 701, 755, 798, 821, 864, 908, 971, 994, 1017, 1050, 1063, 1076], 135) rfl) (by decide) (by decide) rfl (by decide) (cv_c_safe X hl hi hI (by omega) (by omega) K H locs hP hM hS)
      | 10, _ => exact lv_tableIn (tgt := 510) hx hb (cv_dec dkL_law0 21 (33, .tableswitch 1099 0 29 #[135, 188, 221, 254, 287, 310, 333, 356, 431, 454, 477, 510, 543, 576, 599, 622, 645, 668, 701, 755, 798, 821, 864, 908, 971, 994, 1017, 1050, 1063, 1076], 135) rfl) (by decide) (by decide) rfl (by decide) (cv_c_hangs X hl hi hI (by omega) (by omega) K H locs hP hM hS)
      | 11, _ => exact lv_tableIn (tgt := 543) hx hb (cv_dec dkL_law0 21 (33, .tableswitch 1099 0 29 #[135, 188, 221, 254, 287, 310, 333, 356, 431, 454, 477, 510, 543, 576, 599, 622, 645, 668, 701, 755, 798, 821, 864, 908, 971, 994, 1017, 1050, 1063, 1076], 135) rfl) (by decide) (by decide) rfl (by decide) (cv_c_peace X hl hi hI (by omega) (by omega) K H locs hP hM hS)
      | 12, _ => exact lv_tableIn (tgt := 576) hx hb (cv_dec dkL_law0 21 (33, .tableswitch 1099 0 29 #[135, 188, 221, 254, 287, 310, 333, 356, 431, 454, 477, 510, 543, 576, 599, 622, 645, 668, 701, 755, 798, 821, 864, 908, 971, 994, 1017, 1050, 1063, 1076], 135) rfl) (by decide) (by decide) rfl (by decide) (cv_c_reading X hl hi hI (by omega) (by omega) K H locs hP hM hS)
      | 13, _ => exact lv_tableIn (tgt := 609) hx hb (cv_dec dkL_law0 21 (33, .tableswitch 1099 0 29 #[135, 188, 221, 254, 287, 310, 333, 356, 431, 454, 477, 510, 543, 576, 599, 622, 645, 668, 701, 755, 798, 821, 864, 908, 971, 994, 1017, 1050, 1063, 1076], 135) rfl) (by decide) (by decide) rfl (by decide) (cv_c_back X hl hi hI (by omega) (by omega) K H locs hP hM hS)
      | 14, _ => exact lv_tableIn (tgt := 632) hx hb (cv_dec dkL_law0 21 (33, .tableswitch 1099 0 29 #[135, 188, 221, 254, 287, 310, 333, 356, 431, 454, 477, 510, 543, 576, 599, 622, 645, 668, 701, 755, 798, 821, 864, 908, 971, 994, 1017, 1050, 1063, 1076], 135) rfl) (by decide) (by decide) rfl (by decide) (cv_c_snows X hl hi hI (by omega) (by omega) K H locs hP hM hS)
      | 15, _ => exact lv_tableIn (tgt := 655) hx hb (cv_dec dkL_law0 21 (33, .tableswitch 1099 0 29 #[135, 188, 221, 254, 287, 310, 333, 356, 431, 454, 477, 510, 543, 576, 599, 622, 645, 668, 701, 755, 798, 821, 864, 908, 971, 994, 1017, 1050, 1063, 1076], 135) rfl) (by decide) (by decide) rfl (by decide) (cv_c_heights X hl hi hI (by omega) (by omega) K H locs hP hM hS)
      | 16, _ => exact lv_tableIn (tgt := 678) hx hb (cv_dec dkL_law0 21 (33, .tableswitch 1099 0 29 #[135, 188, 221, 254, 287, 310, 333, 356, 431, 454, 477, 510, 543, 576, 599, 622, 645, 668, 701, 755, 798, 821, 864, 908, 971, 994, 1017, 1050, 1063, 1076], 135) rfl) (by decide) (by decide) rfl (by decide) (cv_c_kinds X hl hi hI (by omega) (by omega) K H locs hP hM hS)
      | 17, _ => exact lv_tableIn (tgt := 701) hx hb (cv_dec dkL_law0 21 (33, .tableswitch 1099 0 29 #[135, 188, 221, 254, 287, 310, 333, 356, 431, 454, 477, 510, 543, 576, 599, 622, 645, 668, 701, 755, 798, 821, 864, 908, 971, 994, 1017, 1050, 1063, 1076], 135) rfl) (by decide) (by decide) rfl (by decide) (cv_c_gave X hl hi hI (by omega) (by omega) K H locs hP hM hS)
      | 18, _ => exact lv_tableIn (tgt := 734) hx hb (cv_dec dkL_law0 21 (33, .tableswitch 1099 0 29 #[135, 188, 221, 254, 287, 310, 333, 356, 431, 454, 477, 510, 543, 576, 599, 622, 645, 668, 701, 755, 798, 821, 864, 908, 971, 994, 1017, 1050, 1063, 1076], 135) rfl) (by decide) (by decide) rfl (by decide) (cv_c_odds X hl hi hI (by omega) (by omega) K H locs hP hM hS)
      | 19, _ => exact lv_tableIn (tgt := 788) hx hb (cv_dec dkL_law0 21 (33, .tableswitch 1099 0 29 #[135, 188, 221, 254, 287, 310, 333, 356, 431, 454, 477, 510, 543, 576, 599, 622, 645, 668, 701, 755, 798, 821, 864, 908, 971, 994, 1017, 1050, 1063, 1076], 135) rfl) (by decide) (by decide) rfl (by decide) (cv_c_sheet X hl hi hI (by omega) (by omega) K H locs hP hM hS)
      | 20, _ => exact lv_tableIn (tgt := 831) hx hb (cv_dec dkL_law0 21 (33, .tableswitch 1099 0 29 #[135, 188, 221, 254, 287, 310, 333, 356, 431, 454, 477, 510, 543, 576, 599, 622, 645, 668, 701, 755, 798, 821, 864, 908, 971, 994, 1017, 1050, 1063, 1076], 135) rfl) (by decide) (by decide) rfl (by decide) (cv_c_lose X hl hi hI (by omega) (by omega) K H locs hP hM hS)
      | 21, _ => exact lv_tableIn (tgt := 854) hx hb (cv_dec dkL_law0 21 (33, .tableswitch 1099 0 29 #[135, 188, 221, 254, 287, 310, 333, 356, 431, 454, 477, 510, 543, 576, 599, 622, 645, 668, 701, 755, 798, 821, 864, 908, 971, 994, 1017, 1050, 1063, 1076], 135) rfl) (by decide) (by decide) rfl (by decide) (cv_c_put X hl hi hI (by omega) (by omega) K H locs hP hM hS)
      | 22, _ => exact lv_tableIn (tgt := 897) hx hb (cv_dec dkL_law0 21 (33, .tableswitch 1099 0 29 #[135, 188, 221, 254, 287, 310, 333, 356, 431, 454, 477, 510, 543, 576, 599, 622, 645, 668, 701, 755, 798, 821, 864, 908, 971, 994, 1017, 1050, 1063, 1076], 135) rfl) (by decide) (by decide) rfl (by decide) (cv_c_cell X hl hi hI (by omega) (by omega) K H locs hP hM hS)
      | 23, _ => exact lv_tableIn (tgt := 941) hx hb (cv_dec dkL_law0 21 (33, .tableswitch 1099 0 29 #[135, 188, 221, 254, 287, 310, 333, 356, 431, 454, 477, 510, 543, 576, 599, 622, 645, 668, 701, 755, 798, 821, 864, 908, 971, 994, 1017, 1050, 1063, 1076], 135) rfl) (by decide) (by decide) rfl (by decide) (cv_c_copy X hl hi hI (by omega) (by omega) K H locs hP hM hS)
      | 24, _ => exact lv_tableIn (tgt := 1004) hx hb (cv_dec dkL_law0 21 (33, .tableswitch 1099 0 29 #[135, 188, 221, 254, 287, 310, 333, 356, 431, 454, 477, 510, 543, 576, 599, 622, 645, 668, 701, 755, 798, 821, 864, 908, 971, 994, 1017, 1050, 1063, 1076], 135) rfl) (by decide) (by decide) rfl (by decide) (cv_c_tell X hl hi hI (by omega) (by omega) K H locs hP hM hS)
      | 25, _ => exact lv_tableIn (tgt := 1027) hx hb (cv_dec dkL_law0 21 (33, .tableswitch 1099 0 29 #[135, 188, 221, 254, 287, 310, 333, 356, 431, 454, 477, 510, 543, 576, 599, 622, 645, 668, 701, 755, 798, 821, 864, 908, 971, 994, 1017, 1050, 1063, 1076], 135) rfl) (by decide) (by decide) rfl (by decide) (cv_c_mark X hl hi hI (by omega) (by omega) K H locs hP hM hS)
      | 26, _ => exact lv_tableIn (tgt := 1050) hx hb (cv_dec dkL_law0 21 (33, .tableswitch 1099 0 29 #[135, 188, 221, 254, 287, 310, 333, 356, 431, 454, 477, 510, 543, 576, 599, 622, 645, 668, 701, 755, 798, 821, 864, 908, 971, 994, 1017, 1050, 1063, 1076], 135) rfl) (by decide) (by decide) rfl (by decide) (cv_c_as X hl hi hI (by omega) (by omega) K H locs hP hM hS)
      | 27, _ => exact lv_tableIn (tgt := 1083) hx hb (cv_dec dkL_law0 21 (33, .tableswitch 1099 0 29 #[135, 188, 221, 254, 287, 310, 333, 356, 431, 454, 477, 510, 543, 576, 599, 622, 645, 668, 701, 755, 798, 821, 864, 908, 971, 994, 1017, 1050, 1063, 1076], 135) rfl) (by decide) (by decide) rfl (by decide) (cv_c_trace X hl hi hI (by omega) (by omega) K H locs hP hM hS)
      | 28, _ => exact lv_tableIn (tgt := 1096) hx hb (cv_dec dkL_law0 21 (33, .tableswitch 1099 0 29 #[135, 188, 221, 254, 287, 310, 333, 356, 431, 454, 477, 510, 543, 576, 599, 622, 645, 668, 701, 755, 798, 821, 864, 908, 971, 994, 1017, 1050, 1063, 1076], 135) rfl) (by decide) (by decide) rfl (by decide) (cv_c_fault X hl hi hI (by omega) (by omega) K H locs hP hM hS)
      | 29, _ => exact lv_tableIn (tgt := 1109) hx hb (cv_dec dkL_law0 21 (33, .tableswitch 1099 0 29 #[135, 188, 221, 254, 287, 310, 333, 356, 431, 454, 477, 510, 543, 576, 599, 622, 645, 668, 701, 755, 798, 821, 864, 908, 971, 994, 1017, 1050, 1063, 1076], 135) rfl) (by decide) (by decide) rfl (by decide) (cv_c_many X hl hi hI (by omega) (by omega) K H locs hP hM hS)
      | 30, _ => exact lv_tableOut (tgt := 1132) hx hb (cv_dec dkL_law0 21 (33, .tableswitch 1099 0 29 #[135, 188, 221, 254, 287, 310, 333, 356, 431, 454, 477, 510, 543, 576, 599, 622, 645, 668, 701, 755, 798, 821, 864, 908, 971, 994, 1017, 1050, 1063, 1076], 135) rfl) (by decide) (by decide) (K σ μ hI _ _ (Nat.le_succ _) (by omega) H locs hP hM hS)
      | 31, _ => exact lv_tableOut (tgt := 1132) hx hb (cv_dec dkL_law0 21 (33, .tableswitch 1099 0 29 #[135, 188, 221, 254, 287, 310, 333, 356, 431, 454, 477, 510, 543, 576, 599, 622, 645, 668, 701, 755, 798, 821, 864, 908, 971, 994, 1017, 1050, 1063, 1076], 135) rfl) (by decide) (by decide) (K σ μ hI _ _ (Nat.le_succ _) (by omega) H locs hP hM hS)
      | z + 32, h => exact absurd h (by omega)
theorem cv_arr {s : State} (h0 : (Cond.arrayClass .int).before #[] s = true) (h3 : va_AO RX3 s) (h1 : va_AO RX1 s) : ∃ cA : Nat → ClassId, ∀ (k : Nat) (q : ClassId × FieldType), (cv_tys cA)[k]? = some q → ArrOfT s q.1 q.2 ∧ va_RA s q.1 q.2 := by
  obtain ⟨cI, kI, pI, i1, i2, i3⟩ := Cond.arrayClass_spec h0
  obtain ⟨p3, c3, k3, j1, -, j2, j3, j4⟩ := Cond.arrayOver_spec h3
  obtain ⟨p1, c1, k1, l1, -, l2, l3, l4⟩ := Cond.arrayOver_spec h1
  refine ⟨fun k => if k = 0 then cI else if k = 1 then c3 else c1, fun k q hq => ?_⟩
  match k, hq with
  | 0, hq => cases hq; exact ⟨fun n z => ⟨fun k h => (by cases h), kI, i2, pI, i3⟩, i1⟩
  | 1, hq => cases hq; exact ⟨fun n z => ⟨fun k h => (by cases h), k3, j2, p3, j3⟩, k3, p3, j2, j3, j1, j4⟩
  | 2, hq => cases hq; exact ⟨fun n z => ⟨fun k h => (by cases h), k1, l2, p1, l3⟩, k1, p1, l2, l3, l1, l4⟩
  | k + 3, hq => simp [cv_tys] at hq
set_option maxHeartbeats 4000000 in
set_option maxRecDepth 100000 in
/-- THE LAW, from its entry -/
theorem whole_start {p : Program} {e : Env} {s : State} {m : MethodId} {below : List Frame} {meth : Method} {c : Code} (l : Launch) {b L : Nat} {xs : Nat → Int32} (hL : L ≤ 448) (C0 : lw_At p s m meth c b L xs) : W p l e room_1 s m #[Value.ref b] below meth c s.heap [] 0 0 (lw_Z below #[Value.ref b] s) (entryFrame m ([Value.ref b] : List Value).toArray 4) := by
  obtain ⟨hx, hb, hr, hml, hown, hts0, hX, hbl, hlocks, hgv⟩ := id C0
  have hts : ∀ w ∈ cv_BIG, w.before #[Value.ref b] s = true := fun w hw => hts0 w (cv_BIG_in w hw)
  have hown : s.vm.findClass RL = some m.cls := hown
  have hA : ∀ q : Nat, s.heap.size ≤ q → cv_Z s q := fun _ h => h
  obtain ⟨c0, iS0, hKn0⟩ := u_known (C := RX0) (T := TX0) (N := 7) (n := 7) hts iw_X0 (hts _ wb_X0)
  obtain ⟨c1, iS1, hKn1⟩ := u_known (C := RX1) (T := TX1) (N := 5) (n := 5) hts iw_X1 (hts _ wb_X1)
  obtain ⟨c2, iS2, hKn2⟩ := u_known (C := RX2) (T := TX2) (N := 3) (n := 3) hts iw_X2 (hts _ wb_X2)
  obtain ⟨c3, iS3, hKn3⟩ := u_known (C := RX3) (T := TX3) (N := 3) (n := 3) hts iw_X3 (hts _ wb_X3)
  obtain ⟨c4, iS4, hKn4⟩ := u_known (C := RX4) (T := TX4) (N := 3) (n := 3) hts iw_X4 (hts _ wb_X4)
  obtain ⟨c5, iS5, hKn5⟩ := u_known (C := RX5) (T := TX5) (N := 4) (n := 4) hts iw_X5 (hts _ wb_X5)
  obtain ⟨c6, iS6, hKn6⟩ := u_known (C := RX6) (T := TX6) (N := 6) (n := 6) hts iw_X6 (hts _ wb_X6)
  obtain ⟨c7, iS7, hKn7⟩ := u_known (C := RX7) (T := TX7) (N := 29) (n := 29) hts iw_X7 (hts _ wb_X7)
  obtain ⟨D, hKc⟩ : ∃ D : va_G, ∀ (k : Nat) (q : vw_C), cv_cl[k]? = some q → u_Kn s q.1 q.2.1 q.2.2 (D.1 k) (D.2 k) := by
    refine ⟨(fun k => match k with | 0 => c0 | 1 => c1 | 2 => c2 | 3 => c3 | 4 => c4 | 5 => c5 | 6 => c6 | _ => c7, fun k => match k with | 0 => iS0 | 1 => iS1 | 2 => iS2 | 3 => iS3 | 4 => iS4 | 5 => iS5 | 6 => iS6 | _ => iS7), ?_⟩
    intro k q hq
    match k, hq with
    | 0, hq => cases hq; exact hKn0
    | 1, hq => cases hq; exact hKn1
    | 2, hq => cases hq; exact hKn2
    | 3, hq => cases hq; exact hKn3
    | 4, hq => cases hq; exact hKn4
    | 5, hq => cases hq; exact hKn5
    | 6, hq => cases hq; exact hKn6
    | 7, hq => cases hq; exact hKn7
    | k + 8, hq => simp [cv_cl] at hq
  have hO3 : va_AO RX3 s := va_AO.of (hts0 _ wo_X3)
  have hO1 : va_AO RX1 s := va_AO.of (hts0 _ wo_X1)
  have hN : ∀ w ∈ cv_NW, va_Nw w s := fun w hw => va_Nw.of (cv_NW_tab w hw) (hts0 w (cv_NW_in w hw))
  obtain ⟨cA, hKt⟩ := cv_arr (s := s) (hts _ wa_int) hO3 hO1
  have hK : va_K D cv_cl (cv_tys cA) s := ⟨hKc, hKt⟩
  have hS : va_S (cv_Z s) s.heap s.heap [] := va_S.rf
  have hP : va_P D cv_cl [] s.heap := fun k q h => by simp at h
  have hD : va_D (cv_Z s) [] := ⟨fun i j p q h => by simp at h, fun k q h => by simp at h⟩
  have hl := lv_entry ([.ref b]) (n := 4) (Nat.le_of_ble_eq_true rfl)
  rw [lg_entry_eq]
  generalize (lg_sl ([.ref b]) ++ List.replicate (4 - (lg_sl ([.ref b])).length) Slot.unset).toArray = ls at hl ⊢
  have hl : lv_has ls 4 [(0, .ref b)] := hl
  refine va_new (ci := 6) (fs := [.null, .null, .null, .null, .int 0, .int 0]) (C := RX6) (T := TX6) (N := 6) hx hb hts iw_X6 tyX6 tyX6_ok hown (hts _ wkL_7) (hts _ wb_X6) (hts _ wn_X6) hK hP hD hS hA rfl (fun j hj => by match j, hj with | 0, _ => rfl | 1, _ => rfl | 2, _ => rfl | 3, _ => rfl | 4, _ => rfl | 5, _ => rfl) (Nat.le_of_ble_eq_true rfl) (Nat.le_of_ble_eq_true rfl) (cv_dec dkL_law0 0 (0, .new 7, 3) rfl) (fun q6 H hP hD hS => ?_)
  have hP : va_P D cv_cl [(q6, .inr (6, [.null, .null, .null, .null, .int 0, .int 0]))] H := hP
  have hD : va_D (cv_Z s) [(q6, .inr (6, [.null, .null, .null, .null, .int 0, .int 0]))] := hD
  refine W.widen (k := 1) (n := 6) (by decide) (by decide) ?_
  refine lv_dup hx hb (cv_dec dkL_law0 1 (3, .dup, 1) rfl) rfl ?_
  have hPc := hP
  have hDc := hD
  have hFc := va_free (wc := [(q6, .inr (6, [.null, .null, .null, .null, .int 0, .int 0]))]) hD hS hA [0] rfl
  refine va_callv (va_runI (As := []) (rest := [.ref q6]) ⟨hx, hb, hml, hown, hts⟩ (kX6_init l D cA q6 H.size) (cwI 0 hts (cv_good wc_yX6_init) rfl rfl rfl (hts _ wn_X6) (hts _ wmL_9) (hts _ wi_yX6_init) rfl (by decide +kernel) ⟨Nat.le_of_ble_eq_true rfl, Nat.le_of_ble_eq_true rfl⟩) ⟨cv_Bt_blind, fun U hU hW => ⟨rfl, by rw [hU], by rw [hU]; exact hPc, va_K.moved hW.alike hK, hDc.weaken (fun _ _ _ _ => trivial), cv_NW_warm hW hN, va_AO.moved hW.alike hO3, va_AO.moved hW.alike hO1⟩⟩ rfl rfl hl.1 rfl (lv_room (Nat.le_of_ble_eq_true rfl)) (cv_dec dkL_law0 2 (4, .invokespecial 9, 3) rfl) ⟨Nat.le_of_ble_eq_true rfl, Nat.le_of_ble_eq_true rfl⟩) hS (fun z _ h => hFc z h) hFc (fun ws1 t H1 locs ht hvm hw hB hz1 hk1 hS => ?_)
  obtain ⟨a, ha0, rfl⟩ := hw
  obtain ⟨hP1, hD1⟩ := hB
  rw [ht] at hP1
  have hDC : va_D (cv_Z s) (cv_wl 26 cv_shC cA a cv_s0) := hD1.weaken (fun k q _ h => hFc q.1 h)
  generalize H1 = H at hP1 hS ⊢
  refine W.widen (k := 26) (n := 411) (by decide) (by decide) ?_
  refine lv_astore_n (lv' := [(1, .ref q6), (0, .ref b)]) hx hb (cv_dec dkL_law0 3 (7, .astore_n 1, 1) rfl) rfl hl (by decide) rfl (fun ls hl => ?_)
  refine va_new (ci := 7) (fs := [.int 0, .int 0, .null, .null, .null, .int 0, .null, .null, .null, .null, .null, .null, .null, .int 0, .int 0, .int 0, .null, .null, .null, .null, .int 0, .int 0, .int 0, .int 0, .int 0, .int 0, .int 0, .null, .null]) (C := RX7) (T := TX7) (N := 29) hx hb hts iw_X7 tyX7 tyX7_ok hown (hts _ wkL_10) (hts _ wb_X7) (hts _ wn_X7) hK hP1 hDC hS hA rfl (fun j hj => by match j, hj with | 0, _ => rfl | 1, _ => rfl | 2, _ => rfl | 3, _ => rfl | 4, _ => rfl | 5, _ => rfl | 6, _ => rfl | 7, _ => rfl | 8, _ => rfl | 9, _ => rfl | 10, _ => rfl | 11, _ => rfl | 12, _ => rfl | 13, _ => rfl | 14, _ => rfl | 15, _ => rfl | 16, _ => rfl | 17, _ => rfl | 18, _ => rfl | 19, _ => rfl | 20, _ => rfl | 21, _ => rfl | 22, _ => rfl | 23, _ => rfl | 24, _ => rfl | 25, _ => rfl | 26, _ => rfl | 27, _ => rfl | 28, _ => rfl | z + 29, h => exact absurd h (by omega)) (Nat.le_of_ble_eq_true rfl) (Nat.le_of_ble_eq_true rfl) (cv_dec dkL_law0 4 (8, .new 10, 3) rfl) (fun q7 H hP hD hS => ?_)
  refine W.widen (k := 27) (n := 440) (by decide) (by decide) ?_
  refine lv_dup hx hb (cv_dec dkL_law0 5 (11, .dup, 1) rfl) rfl ?_
  have hlen : (cv_wl 26 cv_shC cA a cv_s0).length = 26 := cv_wl_len
  have at0 : ∀ k, k < 26 → (cv_wl 26 cv_shC cA a cv_s0 ++ [(q7, .inr (7, [.int 0, .int 0, .null, .null, .null, .int 0, .null, .null, .null, .null, .null, .null, .null, .int 0, .int 0, .int 0, .null, .null, .null, .null, .int 0, .int 0, .int 0, .int 0, .int 0, .int 0, .int 0, .null, .null]))])[k]? = some (a k, cv_E cA a (cv_shC k) (cv_s0 k)) := fun k hk => by
    rw [List.getElem?_append_left (by rw [hlen]; exact hk)]; exact cv_wl_at hk
  have at26 : (cv_wl 26 cv_shC cA a cv_s0 ++ [(q7, .inr (7, [.int 0, .int 0, .null, .null, .null, .int 0, .null, .null, .null, .null, .null, .null, .null, .int 0, .int 0, .int 0, .null, .null, .null, .null, .int 0, .int 0, .int 0, .int 0, .int 0, .int 0, .int 0, .null, .null]))])[26]? = some (q7, .inr (7, [.int 0, .int 0, .null, .null, .null, .int 0, .null, .null, .null, .null, .null, .null, .null, .int 0, .int 0, .int 0, .null, .null, .null, .null, .int 0, .int 0, .int 0, .int 0, .int 0, .int 0, .int 0, .null, .null])) := by
    rw [List.getElem?_append_right (by rw [hlen]; exact Nat.le_refl _), hlen]; rfl
  have hC26 : [26].map (fun i => (cv_wl 26 cv_shC cA a cv_s0 ++ [(q7, .inr (7, [.int 0, .int 0, .null, .null, .null, .int 0, .null, .null, .null, .null, .null, .null, .null, .int 0, .int 0, .int 0, .null, .null, .null, .null, .int 0, .int 0, .int 0, .int 0, .int 0, .int 0, .int 0, .null, .null]))])[i]?) = [((q7, .inr (7, [.int 0, .int 0, .null, .null, .null, .int 0, .null, .null, .null, .null, .null, .null, .null, .int 0, .int 0, .int 0, .null, .null, .null, .null, .int 0, .int 0, .int 0, .int 0, .int 0, .int 0, .int 0, .null, .null])) : Nat × va_E)].map some := by
    simp only [List.map_cons, List.map_nil]
    rw [at26]
  have hPc : va_P D cv_cl [(q7, .inr (7, [.int 0, .int 0, .null, .null, .null, .int 0, .null, .null, .null, .null, .null, .null, .null, .int 0, .int 0, .int 0, .null, .null, .null, .null, .int 0, .int 0, .int 0, .int 0, .int 0, .int 0, .int 0, .null, .null]))] H := fun k z hz => by
    match k, hz with
    | 0, hz => cases hz; exact hP 26 _ at26
    | k + 1, hz => simp at hz
  have hDc := hD.sub (ws' := [(q7, .inr (7, [.int 0, .int 0, .null, .null, .null, .int 0, .null, .null, .null, .null, .null, .null, .null, .int 0, .int 0, .int 0, .null, .null, .null, .null, .int 0, .int 0, .int 0, .int 0, .int 0, .int 0, .int 0, .null, .null]))]) [26] (by decide) hC26
  have hFc := va_free (wc := [(q7, .inr (7, [.int 0, .int 0, .null, .null, .null, .int 0, .null, .null, .null, .null, .null, .null, .null, .int 0, .int 0, .int 0, .null, .null, .null, .null, .int 0, .int 0, .int 0, .int 0, .int 0, .int 0, .int 0, .null, .null]))]) hD hS hA [26] hC26
  refine va_callv (va_runI (As := []) (rest := [.ref q7]) ⟨hx, hb, hml, hown, hts⟩ (kX7_init l D cA q7 H.size) (cwI 0 hts (cv_good wc_yX7_init) rfl rfl rfl (hts _ wn_X7) (hts _ wmL_12) (hts _ wi_yX7_init) rfl (by decide +kernel) ⟨Nat.le_of_ble_eq_true rfl, Nat.le_of_ble_eq_true rfl⟩) ⟨cv_Bt_blind, fun U hU hW => ⟨rfl, by rw [hU], by rw [hU]; exact hPc, va_K.moved hW.alike hK, hDc.weaken (fun _ _ _ _ => trivial), cv_NW_warm hW hN, va_AO.moved hW.alike hO3, va_AO.moved hW.alike hO1⟩⟩ rfl rfl hl.1 rfl (lv_room (Nat.le_of_ble_eq_true rfl)) (cv_dec dkL_law0 6 (12, .invokespecial 12, 3) rfl) ⟨Nat.le_of_ble_eq_true rfl, Nat.le_of_ble_eq_true rfl⟩) hS (fun z _ h => hFc z h) hFc (fun ws1 t H1 locs ht hvm hw hB hz1 hk1 hS => ?_)
  obtain ⟨ab, hb0, rfl⟩ := hw
  obtain ⟨hP2, hD2⟩ := hB
  rw [ht] at hP2
  have hR26 : (List.range 26).map (fun i => (cv_wl 26 cv_shC cA a cv_s0 ++ [(q7, .inr (7, [.int 0, .int 0, .null, .null, .null, .int 0, .null, .null, .null, .null, .null, .null, .null, .int 0, .int 0, .int 0, .null, .null, .null, .null, .int 0, .int 0, .int 0, .int 0, .int 0, .int 0, .int 0, .null, .null]))])[i]?) = (cv_wl 26 cv_shC cA a cv_s0).map some := by
    unfold cv_wl
    rw [List.map_map]
    apply List.map_congr_left
    intro k hk
    have := at0 k (List.mem_range.mp hk)
    unfold cv_wl at this
    exact this
  obtain ⟨hP3, hD3⟩ := va_join (wr := cv_wl 26 cv_shC cA a cv_s0) (w1 := cv_wl 17 cv_shM cA ab cv_t0) hP hD [26] (List.range 26) hC26 hR26 (by decide +kernel) (by decide +kernel) hk1 hFc hP2 hD2
  have hPC : va_P D cv_cl (cv_wl 26 cv_shC cA a cv_s0) H1 := fun k q hk => hP3 k q (by rw [List.getElem?_append_left (List.getElem?_eq_some_iff.mp hk).1]; exact hk)
  have hDM : va_D (cv_Z s) (cv_wl 17 cv_shM cA ab cv_t0) := hD2.weaken (fun k q _ h => hFc q.1 h)
  have hap : ∀ j, j < 26 → ∀ k, k < 17 → a j ≠ ab k := by
    intro j hj k hk hjk
    have h1 : (cv_wl 26 cv_shC cA a cv_s0 ++ cv_wl 17 cv_shM cA ab cv_t0)[j]? = some (a j, cv_E cA a (cv_shC j) (cv_s0 j)) := by
      rw [List.getElem?_append_left (by rw [hlen]; exact hj)]; exact cv_wl_at hj
    have h2 : (cv_wl 26 cv_shC cA a cv_s0 ++ cv_wl 17 cv_shM cA ab cv_t0)[26 + k]? = some (ab k, cv_E cA ab (cv_shM k) (cv_t0 k)) := by
      rw [List.getElem?_append_right (by rw [hlen]; omega), hlen, Nat.add_sub_cancel_left]; exact cv_wl_at hk
    have := hD3.1 j (26 + k) _ _ h1 h2 hjk
    omega
  generalize H1 = H at hPC hP2 hS ⊢
  refine W.widen (k := 43) (n := 834) (by decide) (by decide) ?_
  refine lv_astore_n (lv' := [(2, .ref q7), (1, .ref q6), (0, .ref b)]) hx hb (cv_dec dkL_law0 7 (15, .astore_n 2, 1) rfl) rfl hl (by decide) rfl (fun ls hl => ?_)
  refine lv_iconst (v := nI 0) hx hb (cv_dec dkL_law0 8 (16, .iconst 0, 1) rfl) (by decide) ?_
  refine lv_istore_n (lv' := [(3, .int (nI 0)), (2, .ref q7), (1, .ref q6), (0, .ref b)]) hx hb (cv_dec dkL_law0 9 (17, .istore_n 3, 1) rfl) rfl hl (by decide) rfl (fun ls hl => ?_)
  subst ha0
  subst hb0
  exact cv_lloop ⟨C0, hL, hK, cv_D_any _ hDC, cv_D_any _ hDM, hap, hN⟩ 448 0 (by omega) (by decide) cv_s0 cv_t0 43 834 cv_I0 (by decide) (by decide) ls (lv_sub hl [0, 3, 2, 1] rfl) H _ hPC hP2 hS
