/-! ===== the text's object is made ===== -/
theorem wc_objectInit : Cond.code objectInit ⟨#[0xb1]⟩ 1 none ∈ cv_BIG := cv_b1 19 rfl rfl
set_option maxHeartbeats 4000000 in
set_option maxRecDepth 100000 in
theorem kX4_init (l : Launch) (D : va_G) (q r : Nat) (x y : Int32) (sz : Nat) : Met l yX4_init (Cond.code yX4_init cX4_init 4 none :: cv_BIG) (cv_rm 1 0 0) (va_Pc [.ref q, .ref r, .int x, .int y] (fun U => U.heap.size = sz ∧ va_P D cv_cl [(q, .inr (4, [.null, .int 0, .int 0]))] U.heap ∧ va_K D cv_cl [] U ∧ va_D (fun _ => True) [(q, .inr (4, [.null, .int 0, .int 0]))])) (va_Qv (fun _ : Unit => True) (fun _ t => va_P D cv_cl [(q, .inr (4, [.ref r, .int x, .int y]))] t.heap ∧ va_D (va_A [(q, .inr (4, [.null, .int 0, .int 0]))] sz) [(q, .inr (4, [.ref r, .int x, .int y]))]) (va_A [(q, .inr (4, [.null, .int 0, .int 0]))] sz)) 0 0 (va_A [(q, .inr (4, [.null, .int 0, .int 0]))] sz) := by
  refine Met.ofW (cc := cX4_init) (maxL := 4) (ret := none) (by decide) rfl ?_
  intro p e s m args below meth c s₁ B hml hv
  obtain ⟨rfl, hsz, hP, hK, hD0⟩ := hv
  have hx := B.exec
  have hb := B.bytes
  have hr := B.returns
  have hts0 := atoms_spec (ws := Cond.code yX4_init cX4_init 4 none :: cv_BIG) B.pre
  have hts : ∀ w ∈ cv_BIG, w.before _ s = true := fun w hw => hts0 w (List.mem_cons_of_mem _ hw)
  have hown : s.vm.findClass RX4 = some m.cls := findClass_of_methodNamed B.named
  have hlocks := B.notSynchronized
  have hin : meth.name = "<init>" := (name_of_methodNamed B.named B.method).1
  subst hsz
  have hD := hD0.self (sz := s.heap.size)
  generalize hAe : va_A [(q, .inr (4, [.null, .int 0, .int 0]))] s.heap.size = A at hD ⊢
  have hS : va_S A s.heap s.heap [] := va_S.rf
  have hl := lv_entry ([.ref q, .ref r, .int x, .int y]) (n := 4) (Nat.le_of_ble_eq_true rfl)
  rw [lg_entry_eq]
  generalize (lg_sl ([.ref q, .ref r, .int x, .int y]) ++ List.replicate (4 - (lg_sl ([.ref q, .ref r, .int x, .int y])).length) Slot.unset).toArray = ls at hl ⊢
  have hl : lv_has ls 4 [(0, .ref q), (1, .ref r), (2, .int x), (3, .int y)] := hl
  have Dc := @cv_dec _ _ dkX4_init
  refine lv_aload_n hx hb (Dc 0 (0, .aload_n 0, 1) rfl) rfl (lv_at hl 0 rfl) ?_
  refine W.objInit hx hb hown (hts _ wmX4_3) (hts _ wi_objectInit) (hts _ wc_objectInit) rfl (by rw [hml]; exact hl.1) rfl (Dc 1 (1, .invokespecial 3, 3) rfl) (Nat.le_of_ble_eq_true rfl) (Nat.le_of_ble_eq_true rfl) ?_
  refine W.eq (g2 := F0 m 4 ls []) rfl ?_
  refine lv_aload_n hx hb (Dc 2 (4, .aload_n 0, 1) rfl) rfl (lv_at hl 0 rfl) ?_
  refine lv_aload_n hx hb (Dc 3 (5, .aload_n 1, 1) rfl) rfl (lv_at hl 1 rfl) ?_
  refine va_putF (D := D) (ci := 4) (v := .ref r) (ty := .array .int) (C := RX4) (T := TX4) (N := 3) hx hb hts iw_X4 tyX4 tyX4_ok nmX4 hown hK hP hD hS 0 rfl rfl 0 (by decide) (hts _ wfX4_9) (fun _ h9 => h9) rfl hin rfl (by decide +kernel) rfl rfl (Nat.le_of_ble_eq_true rfl) (Dc 4 (6, .putfield 9, 3) rfl) (fun H locs hP hD hS => ?_)
  have hP : va_P D cv_cl [(q, .inr (4, [.ref r, .int 0, .int 0]))] H := hP
  have hD : va_D A [(q, .inr (4, [.ref r, .int 0, .int 0]))] := hD
  refine lv_aload_n hx hb (Dc 5 (9, .aload_n 0, 1) rfl) rfl (lv_at hl 0 rfl) ?_
  refine lv_iload_n hx hb (Dc 6 (10, .iload_n 2, 1) rfl) rfl (lv_at hl 2 rfl) ?_
  refine va_putF (D := D) (ci := 4) (v := .int x) (ty := .int) (C := RX4) (T := TX4) (N := 3) hx hb hts iw_X4 tyX4 tyX4_ok nmX4 hown hK hP hD hS 0 rfl rfl 1 (by decide) (hts _ wfX4_15) (fun _ h9 => h9) rfl hin rfl (by decide +kernel) rfl rfl (Nat.le_of_ble_eq_true rfl) (Dc 7 (11, .putfield 15, 3) rfl) (fun H locs hP hD hS => ?_)
  have hP : va_P D cv_cl [(q, .inr (4, [.ref r, .int x, .int 0]))] H := hP
  have hD : va_D A [(q, .inr (4, [.ref r, .int x, .int 0]))] := hD
  refine lv_aload_n hx hb (Dc 8 (14, .aload_n 0, 1) rfl) rfl (lv_at hl 0 rfl) ?_
  refine lv_iload_n hx hb (Dc 9 (15, .iload_n 3, 1) rfl) rfl (lv_at hl 3 rfl) ?_
  refine va_putF (D := D) (ci := 4) (v := .int y) (ty := .int) (C := RX4) (T := TX4) (N := 3) hx hb hts iw_X4 tyX4 tyX4_ok nmX4 hown hK hP hD hS 0 rfl rfl 2 (by decide) (hts _ wfX4_19) (fun _ h9 => h9) rfl hin rfl (by decide +kernel) rfl rfl (Nat.le_of_ble_eq_true rfl) (Dc 10 (16, .putfield 19, 3) rfl) (fun H locs hP hD hS => ?_)
  have hP : va_P D cv_cl [(q, .inr (4, [.ref r, .int x, .int y]))] H := hP
  have hD : va_D A [(q, .inr (4, [.ref r, .int x, .int y]))] := hD
  exact W.vret hx hb hr (fun t ht hW => ⟨⟨(), rfl, trivial, by rw [ht]; exact hP, hD⟩, hS.F ht⟩) hS.2.2 (Dc 11 (19, .return_, 1) rfl)
/-- the cells that a shape names -/
def cv_rfs (s : cv_Sh) : List Nat := match s with
  | .inl o => o.2.filterMap id
  | .inr (.inl _) => []
  | .inr (.inr r) => r.2
theorem cv_E_a {cA : Nat → ClassId} {a a' : Nat → Nat} {s : cv_Sh} {f : Nat → Int32} (h : ∀ j ∈ cv_rfs s, a' j = a j) : cv_E cA a' s f = cv_E cA a s f := by
  match s, h with
  | .inl (ci, l), h =>
    simp only [cv_E]
    congr 2
    apply List.ext_getElem?
    intro i
    rw [List.getElem?_mapIdx, List.getElem?_mapIdx]
    cases hl : l[i]? with
    | none => rfl
    | some o =>
      cases o with
      | none => rfl
      | some j =>
        have : a' j = a j := h j (List.mem_filterMap.mpr ⟨some j, List.mem_of_getElem? hl, rfl⟩)
        simp [cv_fv, this]
  | .inr (.inl n), _ => rfl
  | .inr (.inr (t, l)), h =>
    simp only [cv_E]
    congr 7
    funext i
    cases hl : l[i]? with
    | none => rfl
    | some j => simp [h j (List.mem_of_getElem? hl)]
theorem cv_shC_rf : ∀ k, k < 26 → ∀ j ∈ cv_rfs (cv_shC k), j < 26 := by decide +kernel
theorem cv_wl_C {cA : Nat → ClassId} {a a' : Nat → Nat} {tx : Nat} {σ : cv_St} (ha : ∀ k, k < 26 → a' k = a k) {k : Nat} (hk : k < 26) : (a' k, cv_E cA a' (cv_shT tx k) (σ k)) = (a k, cv_E cA a (cv_shC k) (σ k)) := by
  rw [ha k hk, cv_shT, if_neg (by omega), cv_E_a (fun j hj => ha j (cv_shC_rf k hk j hj))]
theorem cv_wl_T {cA : Nat → ClassId} {a : Nat → Nat} {q tx : Nat} {σ : cv_St} {x y : Int32} (htx : tx < 26) : cv_wl 27 (cv_shT tx) cA (fun k => if k = 26 then q else a k) (cv_uc σ 26 (fun i => if i = 1 then x else y)) = cv_wl 26 cv_shC cA a σ ++ [(q, .inr (4, [.ref (a tx), .int x, .int y]))] := by
  have h27 : List.range 27 = List.range 26 ++ [26] := rfl
  unfold cv_wl
  rw [h27, List.map_append]
  congr 1
  · apply List.map_congr_left
    intro k hk
    have hk := List.mem_range.mp hk
    have := cv_wl_C (cA := cA) (a := a) (a' := fun k => if k = 26 then q else a k) (tx := tx) (σ := σ) (fun j hj => by simp; omega) hk
    rw [cv_uc_n (by omega)]
    exact this
  · have e : (tx = 26) = False := by simp; omega
    simp [cv_shT, cv_E, cv_fv, cv_uc_s, e, List.mapIdx, List.mapIdx.go]
theorem cv_P_drop {D : va_G} {cA : Nat → ClassId} {a a' : Nat → Nat} {tx : Nat} {σ : cv_St} {H : Heap} (ha : ∀ k, k < 26 → a' k = a k) (hP : va_P D cv_cl (cv_wl 27 (cv_shT tx) cA a' σ) H) : va_P D cv_cl (cv_wl 26 cv_shC cA a σ) H := by
  intro k q hk
  obtain ⟨h1, rfl⟩ := cv_wl_some hk
  rw [← cv_wl_C (tx := tx) ha h1]
  exact hP k _ (cv_wl_at (by omega))
theorem cv_lm_a {a a' : Nat → Nat} {lv : List (Nat × Value)} (ha : ∀ k, k < 26 → a' k = a k) (h : ∀ q ∈ lv, ∀ k, q.2 = .ref k → k < 26) : cv_lm a' lv = cv_lm a lv := by
  apply List.map_congr_left
  intro q hq
  obtain ⟨i, v⟩ := q
  cases v with
  | ref k => simp [cv_v, ha k (h _ hq k rfl)]
  | _ => rfl
section CVT
variable {X : cv_X} {own : String} {cc : ByteArray} {nL d : Nat} {σ : cv_St} {pc : Nat} {lv : List (Nat × Value)} {a a' : Nat → Nat} {tx : Nat}
theorem cv_iretT {ty : FieldType} {mc ms : Nat} {Qa : Option Value → cv_St → Prop} (C : cv_Cx X (27, cv_shT tx, 1, 3, a') own cc nL d) (Rt : cv_Rt X (26, cv_shC, 0, 0, a) (some ty) mc ms Qa) (hmc : 1 ≤ mc ∧ 3 ≤ ms) (ha : ∀ k, k < 26 → a' k = a k) {v : Int32} (hn : narrow ty (.int v) = .int v) (hd : decode cc pc = .ok (.ireturn, 1)) (hq : Qa (some (.int v)) σ) : cv_At X (27, cv_shT tx, 1, 3, a') nL σ pc lv [.int v] := by
  obtain ⟨p, l, e, R, s, m, args, below, meth, c, Q, D, A, cA⟩ := X
  obtain ⟨hr, hlk, h1, h2, rfl⟩ := Rt
  intro H locs ls hP hS hl
  refine W.widen (k := mc) (n := ms) hmc.1 hmc.2 ?_
  exact W.zret C.1 C.2.1 hr hn (fun t ht hW => ⟨⟨some (.int v), σ, rfl, hq, by rw [ht]; exact cv_P_drop ha hP⟩, hS.F ht⟩) hS.2.2 hd (hlocks := hlk)
set_option maxHeartbeats 4000000 in
set_option maxRecDepth 100000 in
/-- land's new Text(sheets[j].cells, x, y), from new to behind its constructor -/
theorem cv_newText {j i0 i1 i3 i4 : Nat} {x y : Int32} (C : cv_Cx X (26, cv_shC, 0, 0, a) RX6 cX6_land 8 d) (hd : 2 ≤ d) (hRm : X.2.2.2.1 = cv_rm d 1 3) (hj : j < 4) (h0 : lv[i0]? = some (0, .ref 0)) (h1 : lv[i1]? = some (1, .int (nI j))) (h3 : lv[i3]? = some (3, .int x)) (h4 : lv[i4]? = some (4, .int y)) (hlv : ∀ q ∈ lv, ∀ k, q.2 = .ref k → k < 26)
    (k : ∀ a', (∀ k, k < 26 → a' k = a k) → cv_Cx X (27, cv_shT (6 + j), 1, 3, a') RX6 cX6_land 8 d → cv_At X (27, cv_shT (6 + j), 1, 3, a') 8 (cv_uc σ 26 (fun i => if i = 1 then x else y)) 70 lv [.ref 26]) : cv_At X (26, cv_shC, 0, 0, a) 8 σ 51 lv [] := by
  obtain ⟨p, l, e, R, s, m, args, below, meth, c, Q, D, A, cA⟩ := X
  have hRm : R = cv_rm d 1 3 := hRm
  subst hRm
  obtain ⟨hx, hb, hml, hown, hts, hK, hD, hA, hN, hf, hlo, hcl, hsl⟩ := C
  intro H locs ls hP hS hl
  have Dc := @cv_dec _ _ dkX6_land
  have hDσ := cv_D_any σ hD
  refine va_new (ci := 4) (fs := [.null, .int 0, .int 0]) (C := RX4) (T := TX4) (N := 3) hx hb hts iw_X4 tyX4 tyX4_ok hown (hts _ wkX6_58) (hts _ wb_X4) (hts _ wn_X4) hK hP hDσ hS hA rfl (fun j hj => by match j, hj with | 0, _ => rfl | 1, _ => rfl | 2, _ => rfl) (Nat.le_refl _) (Nat.le_refl _) (Dc 28 (51, .new 58, 3) rfl) (fun q H1 hP1 hD1 hS1 => ?_)
  have hlen : (cv_wl 26 cv_shC cA a σ).length = 26 := cv_wl_len
  have at0 : ∀ k, k < 26 → (cv_wl 26 cv_shC cA a σ ++ [(q, .inr (4, [.null, .int 0, .int 0]))])[k]? = some (a k, cv_E cA a (cv_shC k) (σ k)) := fun k hk => by
    rw [List.getElem?_append_left (by rw [hlen]; exact hk)]; exact cv_wl_at hk
  have at26 : (cv_wl 26 cv_shC cA a σ ++ [(q, .inr (4, [.null, .int 0, .int 0]))])[26]? = some (q, .inr (4, [.null, .int 0, .int 0])) := by
    rw [List.getElem?_append_right (by rw [hlen]; exact Nat.le_refl _), hlen]; rfl
  have l0 : ls[0]? = some (.val (.ref (a 0))) := lv_at hl i0 (by rw [List.getElem?_map, h0]; rfl)
  have l1 : ls[1]? = some (.val (.int (nI j))) := lv_at hl i1 (by rw [List.getElem?_map, h1]; rfl)
  have l3 : ls[3]? = some (.val (.int x)) := lv_at hl i3 (by rw [List.getElem?_map, h3]; rfl)
  have l4 : ls[4]? = some (.val (.int y)) := lv_at hl i4 (by rw [List.getElem?_map, h4]; rfl)
  refine lv_dup hx hb (Dc 29 (54, .dup, 1) rfl) rfl ?_
  refine lv_aload_n hx hb (Dc 30 (55, .aload_n 0, 1) rfl) rfl l0 ?_
  refine va_get (D := D) (ci := 6) (C := RX6) (T := TX6) (N := 6) (v := .ref (a 1)) hx hb hts iw_X6 hown hK hP1 0 (at0 0 (by decide)) rfl 0 (by decide) (hts _ wfX6_13) (fun _ h => h) rfl (Dc 31 (56, .getfield 13, 3) rfl) ?_
  refine lv_iload_n hx hb (Dc 32 (59, .iload_n 1, 1) rfl) rfl l1 ?_
  refine va_aldq (C := RX3) hx hb hK hP1 1 1 (at0 1 (by decide)) rfl (vp_in_nI (N := 4) hj (by decide)) (Dc 33 (60, .aaload, 1) rfl) ?_
  rw [nI_clamp (by omega), cv_ix_s hj]
  have at2 := at0 (2 + j) (by omega)
  rw [cv_shC_s hj] at at2
  refine va_get (D := D) (ci := 3) (C := RX3) (T := TX3) (N := 3) (v := .ref (a (6 + j))) hx hb hts iw_X3 hown hK hP1 (2 + j) at2 rfl 0 (by decide) (hts _ wfX6_60) (fun _ h => h) rfl (Dc 34 (61, .getfield 60, 3) rfl) ?_
  refine lv_iload_n hx hb (Dc 35 (64, .iload_n 3, 1) rfl) rfl l3 ?_
  refine lv_iload hx hb (Dc 36 (65, .iload 4, 2) rfl) l4 ?_
  have hPc : va_P D cv_cl [(q, .inr (4, [.null, .int 0, .int 0]))] H1 := fun k z hz => by
    match k, hz with
    | 0, hz => cases hz; exact hP1 26 _ at26
    | k + 1, hz => simp at hz
  have hC26 : [26].map (fun i => (cv_wl 26 cv_shC cA a σ ++ [(q, .inr (4, [.null, .int 0, .int 0]))])[i]?) = [((q, .inr (4, [.null, .int 0, .int 0])) : Nat × va_E)].map some := by
    simp only [List.map_cons, List.map_nil]
    rw [at26]
  have hDc := hD1.sub (ws' := [(q, .inr (4, [.null, .int 0, .int 0]))]) [26] (by decide) hC26
  have hFc := va_free (wc := [(q, .inr (4, [.null, .int 0, .int 0]))]) hD1 hS1 hA [26] hC26
  refine va_callv (va_runI (As := [.ref (a (6 + j)), .int x, .int y]) (rest := [.ref q]) ⟨hx, hb, hml, hown, hts⟩ (kX4_init l D q (a (6 + j)) x y H1.size) (cwI 3 hts (cv_good wc_yX4_init) rfl rfl rfl (hts _ wn_X4) (hts _ wmX6_64) (hts _ wi_yX4_init) rfl (by decide +kernel) ⟨by show 1 + 1 ≤ d; omega, by show 8 + (4 + 11) + 34 * 1 ≤ 34 * d; omega⟩) ⟨fun b U g mk q => by obtain ⟨q0, q1, qP, qK, qD⟩ := q; exact ⟨q0, q1, qP, va_K.moved (u := U) (U := U.calling g mk b) (Vm.Alike.refl U.vm) qK, qD⟩, fun U hU hW => ⟨rfl, by rw [hU], by rw [hU]; exact hPc, va_K.moved hW.alike (hK.sub [] rfl), hDc.weaken (fun _ _ _ _ => trivial)⟩⟩ rfl rfl hl.1 rfl (lv_room (Nat.le_of_ble_eq_true rfl)) (Dc 37 (67, .invokespecial 64, 3) rfl) ⟨Nat.le_refl _, Nat.le_refl _⟩) hS1 (fun z _ h => hFc z h) hFc (fun u t H2 locs2 ht hvm hw hB hz1 hk1 hS2 => ?_)
  obtain ⟨hP2, hD2⟩ := hB
  rw [ht] at hP2
  have hR26 : (List.range 26).map (fun i => (cv_wl 26 cv_shC cA a σ ++ [(q, .inr (4, [.null, .int 0, .int 0]))])[i]?) = (cv_wl 26 cv_shC cA a σ).map some := by
    unfold cv_wl
    rw [List.map_map]
    apply List.map_congr_left
    intro k hk
    have := at0 k (List.mem_range.mp hk)
    unfold cv_wl at this
    exact this
  obtain ⟨hP3, hD3⟩ := va_join (wr := cv_wl 26 cv_shC cA a σ) (w1 := [(q, .inr (4, [.ref (a (6 + j)), .int x, .int y]))]) hP1 hD1 [26] (List.range 26) hC26 hR26 (by decide +kernel) (by decide +kernel) hk1 hFc hP2 hD2
  rw [← cv_wl_T (x := x) (y := y) (q := q) (show 6 + j < 26 by omega)] at hP3 hD3
  have ha : ∀ k, k < 26 → (fun k => if k = 26 then q else a k) k = a k := fun k hk => by simp; omega
  have K := k (fun k => if k = 26 then q else a k) ha ⟨hx, hb, hml, hown, hts, hK, cv_D_any _ hD3, hA, hN, hf, hlo, Nat.le_refl _, Nat.le_refl _⟩ H2 locs2 ls hP3 hS2 (by rw [cv_lm_a ha hlv]; exact hl)
  simp only [List.map_cons, List.map_nil, cv_v, if_true] at K
  exact K
end CVT
