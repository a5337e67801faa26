/-! ===== the constructors ===== -/
/-- a constructor's start -/
def cv_Bt (D : va_G) (cA : Nat → ClassId) (ws : va_W) (sz : Nat) (U : State) : Prop := U.heap.size = sz ∧ va_P D cv_cl ws U.heap ∧ va_K D cv_cl (cv_tys cA) U ∧ va_D (fun _ => True) ws ∧ (∀ w ∈ cv_NW, va_Nw w U) ∧ va_AO RX3 U ∧ va_AO RX1 U
theorem cv_Bt_blind {D : va_G} {cA : Nat → ClassId} {ws : va_W} {sz : Nat} {av : List Value} : FrameBlind (va_Pc av (cv_Bt D cA ws sz)) := by
  intro b U g mk h
  obtain ⟨q0, q1, qP, qK, qD, qN, q3, q4⟩ := h
  exact ⟨q0, q1, qP, va_K.moved (u := U) (U := U.calling g mk b) (Vm.Alike.refl U.vm) qK, qD, fun w hw => va_Nw.same (u := U) (U := U.calling g mk b) (cv_NW_tab w hw) rfl (qN w hw), va_AO.moved (u := U) (U := U.calling g mk b) (Vm.Alike.refl U.vm) q3, va_AO.moved (u := U) (U := U.calling g mk b) (Vm.Alike.refl U.vm) q4⟩
section CVN
variable {p : Program} {l : Launch} {e : Env} {R : Room} {s : State} {m : MethodId} {args : Array Value} {below : List Frame} {meth : Method} {c : Code} {H H0 : Heap} {locs : List Loc} {cells slots : Nat} {Q : State → Prop} {cc : ByteArray} {pc : Nat} {ls : Array Slot} {rest : List Value} {D : va_G} {cA : Nat → ClassId} {A : Nat → Prop} {ws : va_W}
theorem cv_newi (hexec : p.tables.exec = Jvm.exec) (hb : c.code = cc) (hts : ∀ w ∈ cv_BIG, w.before args s = true) (hK : va_K D cv_cl (cv_tys cA) s) (hP : va_P D cv_cl ws H) (hD : va_D A ws) (hS : va_S A H0 H locs) (hA : ∀ q, H0.size ≤ q → A q) {n : Int32} {N' : Nat} (hn : ¬ n < 0) (hN : n.toNatClampNeg = N') (hbytes : N' * 4 ≤ 536870912) (hcells : cells + 1 ≤ R.cells) (hslots : slots + N' ≤ R.slots) (hdg : decode cc pc = .ok (.newarray .int, 2))
    (kk : ∀ (q : Nat) (H1 : Heap), va_P D cv_cl (ws ++ [(q, .inl (cA 0, N', .inl (fun _ => 0)))]) H1 → va_D A (ws ++ [(q, .inl (cA 0, N', .inl (fun _ => 0)))]) → va_S A H0 H1 locs → W p l e R s m args below meth c H1 locs (cells + 1) (slots + N') Q (F0 m (pc + 2) ls (.ref q :: rest))) : W p l e R s m args below meth c H locs cells slots Q (F0 m pc ls (.int n :: rest)) := by
  refine va_newa (atype := .int) (ty := .int) (a0 := (N', .inl (fun _ => 0))) hexec hb (hts _ wa_int) rfl hK hP hD hS hA (fun _ => rfl) hn hN hbytes hcells hslots hdg (fun q cB H1 hK1 hP1 hD1 hS1 => ?_)
  have e1 : s.vm.findClass ("[" ++ FieldType.int.toString) = some (cA 0) := (hK.2 0 (cA 0, .int) rfl).2
  have e2 : s.vm.findClass ("[" ++ FieldType.int.toString) = some cB := (hK1.2 3 (cB, .int) rfl).2
  obtain rfl : cA 0 = cB := Option.some.inj (e1.symm.trans e2)
  exact kk q H1 hP1 hD1 hS1
theorem cv_newq {own C : String} {index t : Nat} (hexec : p.tables.exec = Jvm.exec) (hb : c.code = cc) (hown : s.vm.findClass own = some m.cls) (hclink : (Cond.classLink own index C).before args s = true) (hover : va_AO C s) (hK : va_K D cv_cl (cv_tys cA) s) (ht : (cv_tys cA)[t]? = some (cA t, .object C)) (hP : va_P D cv_cl ws H) (hD : va_D A ws) (hS : va_S A H0 H locs) (hA : ∀ q, H0.size ≤ q → A q) {n : Int32} {N' : Nat} (hn : ¬ n < 0) (hN : n.toNatClampNeg = N') (hbytes : N' * 4 ≤ 536870912) (hcells : cells + 1 ≤ R.cells) (hslots : slots + N' ≤ R.slots) (hdg : decode cc pc = .ok (.anewarray index, 3))
    (kk : ∀ (q : Nat) (H1 : Heap), va_P D cv_cl (ws ++ [(q, .inl (cA t, N', .inr (.inr (.inr (.inr (fun _ => none))))))]) H1 → va_D A (ws ++ [(q, .inl (cA t, N', .inr (.inr (.inr (.inr (fun _ => none))))))]) → va_S A H0 H1 locs → W p l e R s m args below meth c H1 locs (cells + 1) (slots + N') Q (F0 m (pc + 3) ls (.ref q :: rest))) : W p l e R s m args below meth c H locs cells slots Q (F0 m pc ls (.int n :: rest)) := by
  refine va_newq hexec hb hown hclink hover hK hP hD hS hA hn hN hbytes hcells hslots hdg (fun q cB H1 hK1 hP1 hD1 hS1 => ?_)
  obtain ⟨k1, c1, -, -, -, e1⟩ := (hK.2 t (cA t, .object C) ht).2
  obtain ⟨k2, c2, -, -, -, e2⟩ := (hK1.2 3 (cB, .object C) rfl).2
  obtain rfl : cA t = cB := Option.some.inj (e1.symm.trans e2)
  exact kk q H1 hP1 hD1 hS1
end CVN
/-- an array of references, filled from its first place on -/
theorem cv_ups {f : Nat → Option Nat} {l : List Nat} (h : ∀ i, i < l.length → f i = l[i]?) (h0 : ∀ i, l.length ≤ i → f i = none) : f = fun i => l[i]? := by
  funext i
  rcases Nat.lt_or_ge i l.length with e | e
  · exact h i e
  · rw [h0 i e, List.getElem?_eq_none e]
set_option maxHeartbeats 4000000 in
set_option maxRecDepth 100000 in
theorem kX1_init (l : Launch) (D : va_G) (cA : Nat → ClassId) (q sz : Nat) : Met l yX1_init (Cond.code yX1_init cX1_init 1 none :: cv_BIG) (cv_rm 1 0 0) (va_Pc [.ref q] (cv_Bt D cA [(q, .inr (1, [.int 0, .int 0, .int 0, .int 0, .int 0]))] sz)) (va_Qv (fun ws1 : va_W => ws1 = [(q, .inr (1, [.int 0, .int 0, .int 0, .int 0, .int 0]))]) (fun ws1 t => va_P D cv_cl ws1 t.heap ∧ va_D (va_A [(q, .inr (1, [.int 0, .int 0, .int 0, .int 0, .int 0]))] sz) ws1) (va_A [(q, .inr (1, [.int 0, .int 0, .int 0, .int 0, .int 0]))] sz)) 0 0 (va_A [(q, .inr (1, [.int 0, .int 0, .int 0, .int 0, .int 0]))] sz) := by
  refine Met.ofW (cc := cX1_init) (maxL := 1) (ret := none) (by decide) rfl ?_
  intro p e s m args below meth c s₁ B hml hv
  obtain ⟨rfl, hsz, hP, hK, hD0, hN, hO3, hO1⟩ := hv
  have hx := B.exec
  have hb := B.bytes
  have hr := B.returns
  have hts0 := atoms_spec (ws := Cond.code yX1_init cX1_init 1 none :: cv_BIG) B.pre
  have hts : ∀ w ∈ cv_BIG, w.before _ s = true := fun w hw => hts0 w (List.mem_cons_of_mem _ hw)
  have hown : s.vm.findClass RX1 = some m.cls := findClass_of_methodNamed B.named
  have hlocks := B.notSynchronized
  have hin : meth.name = "<init>" := (name_of_methodNamed B.named B.method).1
  subst hsz
  have hD := hD0.self (sz := s.heap.size)
  generalize hAe : va_A [(q, .inr (1, [.int 0, .int 0, .int 0, .int 0, .int 0]))] s.heap.size = A at hD ⊢
  have hA : ∀ q : Nat, s.heap.size ≤ q → A q := fun q h => by rw [← hAe]; exact Or.inr h
  have hS : va_S A s.heap s.heap [] := va_S.rf
  generalize hH : s.heap = H at hP
  have hS : va_S A s.heap H [] := by rw [← hH]; exact hS
  have hl := lv_entry ([.ref q]) (n := 1) (Nat.le_of_ble_eq_true rfl)
  rw [lg_entry_eq]
  generalize (lg_sl ([.ref q]) ++ List.replicate (1 - (lg_sl ([.ref q])).length) Slot.unset).toArray = ls at hl ⊢
  have hl : lv_has ls 1 [(0, .ref q)] := hl
  have Dc := @cv_dec _ _ dkX1_init
  refine lv_aload_n hx hb (Dc 0 (0, .aload_n 0, 1) rfl) rfl (lv_at hl 0 rfl) ?_
  refine W.objInit hx hb hown (hts _ wmX1_3) (hts _ wi_objectInit) (hts _ wc_objectInit) rfl (by rw [hml]; exact hl.1) rfl (Dc 1 (1, .invokespecial 3, 3) rfl) (Nat.le_of_ble_eq_true rfl) (Nat.le_of_ble_eq_true rfl) ?_
  refine W.eq (g2 := F0 m 4 ls []) rfl ?_
  refine W.widen (k := 0) (n := 0) (by decide) (by decide) ?_
  exact W.vret hx hb hr (fun t ht hW => ⟨⟨_, rfl, rfl, by rw [ht]; exact hP, hD⟩, hS.F ht⟩) hS.2.2 (Dc 2 (4, .return_, 1) rfl) (hlocks := hlocks)
set_option maxHeartbeats 4000000 in
set_option maxRecDepth 100000 in
theorem kX5_init (l : Launch) (D : va_G) (cA : Nat → ClassId) (q sz : Nat) : Met l yX5_init (Cond.code yX5_init cX5_init 1 none :: cv_BIG) (cv_rm 1 0 0) (va_Pc [.ref q] (cv_Bt D cA [(q, .inr (5, [.int 0, .int 0, .int 0, .int 0]))] sz)) (va_Qv (fun ws1 : va_W => ws1 = [(q, .inr (5, [.int 0, .int 0, .int 0, .int 0]))]) (fun ws1 t => va_P D cv_cl ws1 t.heap ∧ va_D (va_A [(q, .inr (5, [.int 0, .int 0, .int 0, .int 0]))] sz) ws1) (va_A [(q, .inr (5, [.int 0, .int 0, .int 0, .int 0]))] sz)) 0 0 (va_A [(q, .inr (5, [.int 0, .int 0, .int 0, .int 0]))] sz) := by
  refine Met.ofW (cc := cX5_init) (maxL := 1) (ret := none) (by decide) rfl ?_
  intro p e s m args below meth c s₁ B hml hv
  obtain ⟨rfl, hsz, hP, hK, hD0, hN, hO3, hO1⟩ := hv
  have hx := B.exec
  have hb := B.bytes
  have hr := B.returns
  have hts0 := atoms_spec (ws := Cond.code yX5_init cX5_init 1 none :: cv_BIG) B.pre
  have hts : ∀ w ∈ cv_BIG, w.before _ s = true := fun w hw => hts0 w (List.mem_cons_of_mem _ hw)
  have hown : s.vm.findClass RX5 = some m.cls := findClass_of_methodNamed B.named
  have hlocks := B.notSynchronized
  have hin : meth.name = "<init>" := (name_of_methodNamed B.named B.method).1
  subst hsz
  have hD := hD0.self (sz := s.heap.size)
  generalize hAe : va_A [(q, .inr (5, [.int 0, .int 0, .int 0, .int 0]))] s.heap.size = A at hD ⊢
  have hA : ∀ q : Nat, s.heap.size ≤ q → A q := fun q h => by rw [← hAe]; exact Or.inr h
  have hS : va_S A s.heap s.heap [] := va_S.rf
  generalize hH : s.heap = H at hP
  have hS : va_S A s.heap H [] := by rw [← hH]; exact hS
  have hl := lv_entry ([.ref q]) (n := 1) (Nat.le_of_ble_eq_true rfl)
  rw [lg_entry_eq]
  generalize (lg_sl ([.ref q]) ++ List.replicate (1 - (lg_sl ([.ref q])).length) Slot.unset).toArray = ls at hl ⊢
  have hl : lv_has ls 1 [(0, .ref q)] := hl
  have Dc := @cv_dec _ _ dkX5_init
  refine lv_aload_n hx hb (Dc 0 (0, .aload_n 0, 1) rfl) rfl (lv_at hl 0 rfl) ?_
  refine W.objInit hx hb hown (hts _ wmX5_3) (hts _ wi_objectInit) (hts _ wc_objectInit) rfl (by rw [hml]; exact hl.1) rfl (Dc 1 (1, .invokespecial 3, 3) rfl) (Nat.le_of_ble_eq_true rfl) (Nat.le_of_ble_eq_true rfl) ?_
  refine W.eq (g2 := F0 m 4 ls []) rfl ?_
  refine W.widen (k := 0) (n := 0) (by decide) (by decide) ?_
  exact W.vret hx hb hr (fun t ht hW => ⟨⟨_, rfl, rfl, by rw [ht]; exact hP, hD⟩, hS.F ht⟩) hS.2.2 (Dc 2 (4, .return_, 1) rfl) (hlocks := hlocks)
set_option maxHeartbeats 4000000 in
set_option maxRecDepth 100000 in
theorem kX3_init (l : Launch) (D : va_G) (cA : Nat → ClassId) (q sz : Nat) : Met l yX3_init (Cond.code yX3_init cX3_init 1 none :: cv_BIG) (cv_rm 1 1 60) (va_Pc [.ref q] (cv_Bt D cA [(q, .inr (3, [.null, .int 0, .int 0]))] sz)) (va_Qv (fun ws1 : va_W => ∃ r1 : Nat, ws1 = [(q, .inr (3, [.ref r1, .int (-1), .int 0])), (r1, .inl (cA 0, 60, .inl (fun _ => 0)))]) (fun ws1 t => va_P D cv_cl ws1 t.heap ∧ va_D (va_A [(q, .inr (3, [.null, .int 0, .int 0]))] sz) ws1) (va_A [(q, .inr (3, [.null, .int 0, .int 0]))] sz)) 1 60 (va_A [(q, .inr (3, [.null, .int 0, .int 0]))] sz) := by
  refine Met.ofW (cc := cX3_init) (maxL := 1) (ret := none) (by decide) rfl ?_
  intro p e s m args below meth c s₁ B hml hv
  obtain ⟨rfl, hsz, hP, hK, hD0, hN, hO3, hO1⟩ := hv
  have hx := B.exec
  have hb := B.bytes
  have hr := B.returns
  have hts0 := atoms_spec (ws := Cond.code yX3_init cX3_init 1 none :: cv_BIG) B.pre
  have hts : ∀ w ∈ cv_BIG, w.before _ s = true := fun w hw => hts0 w (List.mem_cons_of_mem _ hw)
  have hown : s.vm.findClass RX3 = some m.cls := findClass_of_methodNamed B.named
  have hlocks := B.notSynchronized
  have hin : meth.name = "<init>" := (name_of_methodNamed B.named B.method).1
  subst hsz
  have hD := hD0.self (sz := s.heap.size)
  generalize hAe : va_A [(q, .inr (3, [.null, .int 0, .int 0]))] s.heap.size = A at hD ⊢
  have hA : ∀ q : Nat, s.heap.size ≤ q → A q := fun q h => by rw [← hAe]; exact Or.inr h
  have hS : va_S A s.heap s.heap [] := va_S.rf
  generalize hH : s.heap = H at hP
  have hS : va_S A s.heap H [] := by rw [← hH]; exact hS
  have hl := lv_entry ([.ref q]) (n := 1) (Nat.le_of_ble_eq_true rfl)
  rw [lg_entry_eq]
  generalize (lg_sl ([.ref q]) ++ List.replicate (1 - (lg_sl ([.ref q])).length) Slot.unset).toArray = ls at hl ⊢
  have hl : lv_has ls 1 [(0, .ref q)] := hl
  have Dc := @cv_dec _ _ dkX3_init
  refine lv_aload_n hx hb (Dc 0 (0, .aload_n 0, 1) rfl) rfl (lv_at hl 0 rfl) ?_
  refine W.objInit hx hb hown (hts _ wmX3_3) (hts _ wi_objectInit) (hts _ wc_objectInit) rfl (by rw [hml]; exact hl.1) rfl (Dc 1 (1, .invokespecial 3, 3) rfl) (Nat.le_of_ble_eq_true rfl) (Nat.le_of_ble_eq_true rfl) ?_
  refine W.eq (g2 := F0 m 4 ls []) rfl ?_
  refine lv_aload_n hx hb (Dc 2 (4, .aload_n 0, 1) rfl) rfl (lv_at hl 0 rfl) ?_
  refine lv_bipush (v := nI 60) hx hb (Dc 3 (5, .bipush 60, 2) rfl) (by decide) ?_
  refine cv_newi (N' := 60) hx hb hts hK hP hD hS hA (by decide) (by decide) (by decide) (Nat.le_of_ble_eq_true rfl) (Nat.le_of_ble_eq_true rfl) (Dc 4 (7, .newarray .int, 2) rfl) (fun a1 H hP hD hS => ?_)
  have hP : va_P D cv_cl [(q, .inr (3, [.null, .int 0, .int 0])), (a1, .inl (cA 0, 60, .inl (fun _ => 0)))] H := hP
  have hD : va_D A [(q, .inr (3, [.null, .int 0, .int 0])), (a1, .inl (cA 0, 60, .inl (fun _ => 0)))] := hD
  refine W.widen (k := 1) (n := 60) (by decide) (by decide) ?_
  refine va_putF (D := D) (ci := 3) (v := .ref a1) (ty := .array .int) (C := RX3) (T := TX3) (N := 3) hx hb hts iw_X3 tyX3 tyX3_ok nmX3 hown hK hP hD hS 0 rfl rfl 0 (by decide) (hts _ wfX3_9) (fun _ h9 => h9) rfl hin rfl (by decide +kernel) rfl rfl (Nat.le_of_ble_eq_true rfl) (Dc 5 (9, .putfield 9, 3) rfl) (fun H locs hP hD hS => ?_)
  have hP : va_P D cv_cl [(q, .inr (3, [.ref a1, .int 0, .int 0])), (a1, .inl (cA 0, 60, .inl (fun _ => 0)))] H := hP
  have hD : va_D A [(q, .inr (3, [.ref a1, .int 0, .int 0])), (a1, .inl (cA 0, 60, .inl (fun _ => 0)))] := hD
  refine lv_aload_n hx hb (Dc 6 (12, .aload_n 0, 1) rfl) rfl (lv_at hl 0 rfl) ?_
  refine lv_iconst (v := -1) hx hb (Dc 7 (13, .iconst (-1), 1) rfl) (by decide) ?_
  refine va_put (D := D) (ci := 3) (v := .int (-1)) (ty := .int) (C := RX3) (T := TX3) (N := 3) hx hb hts iw_X3 tyX3 tyX3_ok nmX3 hown hK hP hD hS 0 rfl rfl 1 (by decide) (hts _ wfX3_15) (fun _ h9 => h9) rfl (by decide +kernel) rfl rfl (Nat.le_of_ble_eq_true rfl) (Dc 8 (14, .putfield 15, 3) rfl) (fun H locs hP hD hS => ?_)
  have hP : va_P D cv_cl [(q, .inr (3, [.ref a1, .int (-1), .int 0])), (a1, .inl (cA 0, 60, .inl (fun _ => 0)))] H := hP
  have hD : va_D A [(q, .inr (3, [.ref a1, .int (-1), .int 0])), (a1, .inl (cA 0, 60, .inl (fun _ => 0)))] := hD
  refine W.widen (k := 1) (n := 60) (by decide) (by decide) ?_
  exact W.vret hx hb hr (fun t ht hW => ⟨⟨_, rfl, ⟨_, rfl⟩, by rw [ht]; exact hP, hD⟩, hS.F ht⟩) hS.2.2 (Dc 9 (17, .return_, 1) rfl) (hlocks := hlocks)
set_option maxHeartbeats 4000000 in
set_option maxRecDepth 100000 in
theorem kX2_init (l : Launch) (D : va_G) (cA : Nat → ClassId) (q sz : Nat) : Met l yX2_init (Cond.code yX2_init cX2_init 1 none :: cv_BIG) (cv_rm 1 2 16) (va_Pc [.ref q] (cv_Bt D cA [(q, .inr (2, [.null, .null, .int 0]))] sz)) (va_Qv (fun ws1 : va_W => ∃ r1 r2 : Nat, ws1 = [(q, .inr (2, [.ref r1, .ref r2, .int 0])), (r1, .inl (cA 0, 8, .inl (fun _ => 0))), (r2, .inl (cA 0, 8, .inl (fun _ => 0)))]) (fun ws1 t => va_P D cv_cl ws1 t.heap ∧ va_D (va_A [(q, .inr (2, [.null, .null, .int 0]))] sz) ws1) (va_A [(q, .inr (2, [.null, .null, .int 0]))] sz)) 2 16 (va_A [(q, .inr (2, [.null, .null, .int 0]))] sz) := by
  refine Met.ofW (cc := cX2_init) (maxL := 1) (ret := none) (by decide) rfl ?_
  intro p e s m args below meth c s₁ B hml hv
  obtain ⟨rfl, hsz, hP, hK, hD0, hN, hO3, hO1⟩ := hv
  have hx := B.exec
  have hb := B.bytes
  have hr := B.returns
  have hts0 := atoms_spec (ws := Cond.code yX2_init cX2_init 1 none :: cv_BIG) B.pre
  have hts : ∀ w ∈ cv_BIG, w.before _ s = true := fun w hw => hts0 w (List.mem_cons_of_mem _ hw)
  have hown : s.vm.findClass RX2 = some m.cls := findClass_of_methodNamed B.named
  have hlocks := B.notSynchronized
  have hin : meth.name = "<init>" := (name_of_methodNamed B.named B.method).1
  subst hsz
  have hD := hD0.self (sz := s.heap.size)
  generalize hAe : va_A [(q, .inr (2, [.null, .null, .int 0]))] s.heap.size = A at hD ⊢
  have hA : ∀ q : Nat, s.heap.size ≤ q → A q := fun q h => by rw [← hAe]; exact Or.inr h
  have hS : va_S A s.heap s.heap [] := va_S.rf
  generalize hH : s.heap = H at hP
  have hS : va_S A s.heap H [] := by rw [← hH]; exact hS
  have hl := lv_entry ([.ref q]) (n := 1) (Nat.le_of_ble_eq_true rfl)
  rw [lg_entry_eq]
  generalize (lg_sl ([.ref q]) ++ List.replicate (1 - (lg_sl ([.ref q])).length) Slot.unset).toArray = ls at hl ⊢
  have hl : lv_has ls 1 [(0, .ref q)] := hl
  have Dc := @cv_dec _ _ dkX2_init
  refine lv_aload_n hx hb (Dc 0 (0, .aload_n 0, 1) rfl) rfl (lv_at hl 0 rfl) ?_
  refine W.objInit hx hb hown (hts _ wmX2_3) (hts _ wi_objectInit) (hts _ wc_objectInit) rfl (by rw [hml]; exact hl.1) rfl (Dc 1 (1, .invokespecial 3, 3) rfl) (Nat.le_of_ble_eq_true rfl) (Nat.le_of_ble_eq_true rfl) ?_
  refine W.eq (g2 := F0 m 4 ls []) rfl ?_
  refine lv_aload_n hx hb (Dc 2 (4, .aload_n 0, 1) rfl) rfl (lv_at hl 0 rfl) ?_
  refine lv_bipush (v := nI 8) hx hb (Dc 3 (5, .bipush 8, 2) rfl) (by decide) ?_
  refine cv_newi (N' := 8) hx hb hts hK hP hD hS hA (by decide) (by decide) (by decide) (Nat.le_of_ble_eq_true rfl) (Nat.le_of_ble_eq_true rfl) (Dc 4 (7, .newarray .int, 2) rfl) (fun a1 H hP hD hS => ?_)
  have hP : va_P D cv_cl [(q, .inr (2, [.null, .null, .int 0])), (a1, .inl (cA 0, 8, .inl (fun _ => 0)))] H := hP
  have hD : va_D A [(q, .inr (2, [.null, .null, .int 0])), (a1, .inl (cA 0, 8, .inl (fun _ => 0)))] := hD
  refine W.widen (k := 1) (n := 8) (by decide) (by decide) ?_
  refine va_putF (D := D) (ci := 2) (v := .ref a1) (ty := .array .int) (C := RX2) (T := TX2) (N := 3) hx hb hts iw_X2 tyX2 tyX2_ok nmX2 hown hK hP hD hS 0 rfl rfl 0 (by decide) (hts _ wfX2_9) (fun _ h9 => h9) rfl hin rfl (by decide +kernel) rfl rfl (Nat.le_of_ble_eq_true rfl) (Dc 5 (9, .putfield 9, 3) rfl) (fun H locs hP hD hS => ?_)
  have hP : va_P D cv_cl [(q, .inr (2, [.ref a1, .null, .int 0])), (a1, .inl (cA 0, 8, .inl (fun _ => 0)))] H := hP
  have hD : va_D A [(q, .inr (2, [.ref a1, .null, .int 0])), (a1, .inl (cA 0, 8, .inl (fun _ => 0)))] := hD
  refine lv_aload_n hx hb (Dc 6 (12, .aload_n 0, 1) rfl) rfl (lv_at hl 0 rfl) ?_
  refine lv_bipush (v := nI 8) hx hb (Dc 7 (13, .bipush 8, 2) rfl) (by decide) ?_
  refine cv_newi (N' := 8) hx hb hts hK hP hD hS hA (by decide) (by decide) (by decide) (Nat.le_of_ble_eq_true rfl) (Nat.le_of_ble_eq_true rfl) (Dc 8 (15, .newarray .int, 2) rfl) (fun a2 H hP hD hS => ?_)
  have hP : va_P D cv_cl [(q, .inr (2, [.ref a1, .null, .int 0])), (a1, .inl (cA 0, 8, .inl (fun _ => 0))), (a2, .inl (cA 0, 8, .inl (fun _ => 0)))] H := hP
  have hD : va_D A [(q, .inr (2, [.ref a1, .null, .int 0])), (a1, .inl (cA 0, 8, .inl (fun _ => 0))), (a2, .inl (cA 0, 8, .inl (fun _ => 0)))] := hD
  refine W.widen (k := 2) (n := 16) (by decide) (by decide) ?_
  refine va_putF (D := D) (ci := 2) (v := .ref a2) (ty := .array .int) (C := RX2) (T := TX2) (N := 3) hx hb hts iw_X2 tyX2 tyX2_ok nmX2 hown hK hP hD hS 0 rfl rfl 1 (by decide) (hts _ wfX2_15) (fun _ h9 => h9) rfl hin rfl (by decide +kernel) rfl rfl (Nat.le_of_ble_eq_true rfl) (Dc 9 (17, .putfield 15, 3) rfl) (fun H locs hP hD hS => ?_)
  have hP : va_P D cv_cl [(q, .inr (2, [.ref a1, .ref a2, .int 0])), (a1, .inl (cA 0, 8, .inl (fun _ => 0))), (a2, .inl (cA 0, 8, .inl (fun _ => 0)))] H := hP
  have hD : va_D A [(q, .inr (2, [.ref a1, .ref a2, .int 0])), (a1, .inl (cA 0, 8, .inl (fun _ => 0))), (a2, .inl (cA 0, 8, .inl (fun _ => 0)))] := hD
  refine W.widen (k := 2) (n := 16) (by decide) (by decide) ?_
  exact W.vret hx hb hr (fun t ht hW => ⟨⟨_, rfl, ⟨_, _, rfl⟩, by rw [ht]; exact hP, hD⟩, hS.F ht⟩) hS.2.2 (Dc 10 (20, .return_, 1) rfl) (hlocks := hlocks)
set_option maxHeartbeats 4000000 in
set_option maxRecDepth 100000 in
theorem kX0_init (l : Launch) (D : va_G) (cA : Nat → ClassId) (q sz : Nat) : Met l yX0_init (Cond.code yX0_init cX0_init 2 none :: cv_BIG) (cv_rm 2 11 119) (va_Pc [.ref q] (cv_Bt D cA [(q, .inr (0, [.null, .null, .null, .null, .null, .int 0, .int 0]))] sz)) (va_Qv (fun ws1 : va_W => ∃ r1 r2 r3 r4 r5 r6 r7 r8 r9 r10 r11 : Nat, ws1 = [(q, .inr (0, [.ref r1, .ref r2, .ref r3, .ref r4, .ref r5, .int 0, .int 0])), (r1, .inl (cA 2, 6, .inr (.inr (.inr (.inr (fun i => ([r6, r7, r8, r9, r10, r11] : List Nat)[i]?)))))), (r2, .inl (cA 0, 8, .inl (fun _ => 0))), (r3, .inl (cA 0, 3, .inl (fun _ => 0))), (r4, .inl (cA 0, 24, .inl (fun _ => 0))), (r5, .inl (cA 0, 48, .inl (fun _ => 0))), (r6, .inr (1, [.int 0, .int 0, .int 0, .int 0, .int 0])), (r7, .inr (1, [.int 0, .int 0, .int 0, .int 0, .int 0])), (r8, .inr (1, [.int 0, .int 0, .int 0, .int 0, .int 0])), (r9, .inr (1, [.int 0, .int 0, .int 0, .int 0, .int 0])), (r10, .inr (1, [.int 0, .int 0, .int 0, .int 0, .int 0])), (r11, .inr (1, [.int 0, .int 0, .int 0, .int 0, .int 0]))]) (fun ws1 t => va_P D cv_cl ws1 t.heap ∧ va_D (va_A [(q, .inr (0, [.null, .null, .null, .null, .null, .int 0, .int 0]))] sz) ws1) (va_A [(q, .inr (0, [.null, .null, .null, .null, .null, .int 0, .int 0]))] sz)) 11 119 (va_A [(q, .inr (0, [.null, .null, .null, .null, .null, .int 0, .int 0]))] sz) := by
  refine Met.ofW (cc := cX0_init) (maxL := 2) (ret := none) (by decide) rfl ?_
  intro p e s m args below meth c s₁ B hml hv
  obtain ⟨rfl, hsz, hP, hK, hD0, hN, hO3, hO1⟩ := hv
  have hx := B.exec
  have hb := B.bytes
  have hr := B.returns
  have hts0 := atoms_spec (ws := Cond.code yX0_init cX0_init 2 none :: cv_BIG) B.pre
  have hts : ∀ w ∈ cv_BIG, w.before _ s = true := fun w hw => hts0 w (List.mem_cons_of_mem _ hw)
  have hown : s.vm.findClass RX0 = some m.cls := findClass_of_methodNamed B.named
  have hlocks := B.notSynchronized
  have hin : meth.name = "<init>" := (name_of_methodNamed B.named B.method).1
  subst hsz
  have hD := hD0.self (sz := s.heap.size)
  generalize hAe : va_A [(q, .inr (0, [.null, .null, .null, .null, .null, .int 0, .int 0]))] s.heap.size = A at hD ⊢
  have hA : ∀ q : Nat, s.heap.size ≤ q → A q := fun q h => by rw [← hAe]; exact Or.inr h
  have hS : va_S A s.heap s.heap [] := va_S.rf
  generalize hH : s.heap = H at hP
  have hS : va_S A s.heap H [] := by rw [← hH]; exact hS
  have hl := lv_entry ([.ref q]) (n := 2) (Nat.le_of_ble_eq_true rfl)
  rw [lg_entry_eq]
  generalize (lg_sl ([.ref q]) ++ List.replicate (2 - (lg_sl ([.ref q])).length) Slot.unset).toArray = ls at hl ⊢
  have hl : lv_has ls 2 [(0, .ref q)] := hl
  have Dc := @cv_dec _ _ dkX0_init
  refine lv_aload_n hx hb (Dc 0 (0, .aload_n 0, 1) rfl) rfl (lv_at hl 0 rfl) ?_
  refine W.objInit hx hb hown (hts _ wmX0_3) (hts _ wi_objectInit) (hts _ wc_objectInit) rfl (by rw [hml]; exact hl.1) rfl (Dc 1 (1, .invokespecial 3, 3) rfl) (Nat.le_of_ble_eq_true rfl) (Nat.le_of_ble_eq_true rfl) ?_
  refine W.eq (g2 := F0 m 4 ls []) rfl ?_
  refine lv_aload_n hx hb (Dc 2 (4, .aload_n 0, 1) rfl) rfl (lv_at hl 0 rfl) ?_
  refine lv_bipush (v := nI 6) hx hb (Dc 3 (5, .bipush 6, 2) rfl) (by decide) ?_
  refine cv_newq (t := 2) (C := RX1) (N' := 6) hx hb hown (hts _ wkX0_9) hO1 hK rfl hP hD hS hA (by decide) (by decide) (by decide) (Nat.le_of_ble_eq_true rfl) (Nat.le_of_ble_eq_true rfl) (Dc 4 (7, .anewarray 9, 3) rfl) (fun a1 H hP hD hS => ?_)
  have hP : va_P D cv_cl [(q, .inr (0, [.null, .null, .null, .null, .null, .int 0, .int 0])), (a1, .inl (cA 2, 6, .inr (.inr (.inr (.inr (fun _ => none))))))] H := hP
  have hD : va_D A [(q, .inr (0, [.null, .null, .null, .null, .null, .int 0, .int 0])), (a1, .inl (cA 2, 6, .inr (.inr (.inr (.inr (fun _ => none))))))] := hD
  refine W.widen (k := 1) (n := 6) (by decide) (by decide) ?_
  refine va_putF (D := D) (ci := 0) (v := .ref a1) (ty := .array (.object "CheeseValleys$Pass")) (C := RX0) (T := TX0) (N := 7) hx hb hts iw_X0 tyX0 tyX0_ok nmX0 hown hK hP hD hS 0 rfl rfl 0 (by decide) (hts _ wfX0_11) (fun _ h9 => h9) rfl hin rfl (by decide +kernel) rfl rfl (Nat.le_of_ble_eq_true rfl) (Dc 5 (10, .putfield 11, 3) rfl) (fun H locs hP hD hS => ?_)
  have hP : va_P D cv_cl [(q, .inr (0, [.ref a1, .null, .null, .null, .null, .int 0, .int 0])), (a1, .inl (cA 2, 6, .inr (.inr (.inr (.inr (fun _ => none))))))] H := hP
  have hD : va_D A [(q, .inr (0, [.ref a1, .null, .null, .null, .null, .int 0, .int 0])), (a1, .inl (cA 2, 6, .inr (.inr (.inr (.inr (fun _ => none))))))] := hD
  refine lv_aload_n hx hb (Dc 6 (13, .aload_n 0, 1) rfl) rfl (lv_at hl 0 rfl) ?_
  refine lv_bipush (v := nI 8) hx hb (Dc 7 (14, .bipush 8, 2) rfl) (by decide) ?_
  refine cv_newi (N' := 8) hx hb hts hK hP hD hS hA (by decide) (by decide) (by decide) (Nat.le_of_ble_eq_true rfl) (Nat.le_of_ble_eq_true rfl) (Dc 8 (16, .newarray .int, 2) rfl) (fun a2 H hP hD hS => ?_)
  have hP : va_P D cv_cl [(q, .inr (0, [.ref a1, .null, .null, .null, .null, .int 0, .int 0])), (a1, .inl (cA 2, 6, .inr (.inr (.inr (.inr (fun _ => none)))))), (a2, .inl (cA 0, 8, .inl (fun _ => 0)))] H := hP
  have hD : va_D A [(q, .inr (0, [.ref a1, .null, .null, .null, .null, .int 0, .int 0])), (a1, .inl (cA 2, 6, .inr (.inr (.inr (.inr (fun _ => none)))))), (a2, .inl (cA 0, 8, .inl (fun _ => 0)))] := hD
  refine W.widen (k := 2) (n := 14) (by decide) (by decide) ?_
  refine va_putF (D := D) (ci := 0) (v := .ref a2) (ty := .array .int) (C := RX0) (T := TX0) (N := 7) hx hb hts iw_X0 tyX0 tyX0_ok nmX0 hown hK hP hD hS 0 rfl rfl 1 (by decide) (hts _ wfX0_17) (fun _ h9 => h9) rfl hin rfl (by decide +kernel) rfl rfl (Nat.le_of_ble_eq_true rfl) (Dc 9 (18, .putfield 17, 3) rfl) (fun H locs hP hD hS => ?_)
  have hP : va_P D cv_cl [(q, .inr (0, [.ref a1, .ref a2, .null, .null, .null, .int 0, .int 0])), (a1, .inl (cA 2, 6, .inr (.inr (.inr (.inr (fun _ => none)))))), (a2, .inl (cA 0, 8, .inl (fun _ => 0)))] H := hP
  have hD : va_D A [(q, .inr (0, [.ref a1, .ref a2, .null, .null, .null, .int 0, .int 0])), (a1, .inl (cA 2, 6, .inr (.inr (.inr (.inr (fun _ => none)))))), (a2, .inl (cA 0, 8, .inl (fun _ => 0)))] := hD
  refine lv_aload_n hx hb (Dc 10 (21, .aload_n 0, 1) rfl) rfl (lv_at hl 0 rfl) ?_
  refine lv_iconst (v := nI 3) hx hb (Dc 11 (22, .iconst 3, 1) rfl) (by decide) ?_
  refine cv_newi (N' := 3) hx hb hts hK hP hD hS hA (by decide) (by decide) (by decide) (Nat.le_of_ble_eq_true rfl) (Nat.le_of_ble_eq_true rfl) (Dc 12 (23, .newarray .int, 2) rfl) (fun a3 H hP hD hS => ?_)
  have hP : va_P D cv_cl [(q, .inr (0, [.ref a1, .ref a2, .null, .null, .null, .int 0, .int 0])), (a1, .inl (cA 2, 6, .inr (.inr (.inr (.inr (fun _ => none)))))), (a2, .inl (cA 0, 8, .inl (fun _ => 0))), (a3, .inl (cA 0, 3, .inl (fun _ => 0)))] H := hP
  have hD : va_D A [(q, .inr (0, [.ref a1, .ref a2, .null, .null, .null, .int 0, .int 0])), (a1, .inl (cA 2, 6, .inr (.inr (.inr (.inr (fun _ => none)))))), (a2, .inl (cA 0, 8, .inl (fun _ => 0))), (a3, .inl (cA 0, 3, .inl (fun _ => 0)))] := hD
  refine W.widen (k := 3) (n := 17) (by decide) (by decide) ?_
  refine va_putF (D := D) (ci := 0) (v := .ref a3) (ty := .array .int) (C := RX0) (T := TX0) (N := 7) hx hb hts iw_X0 tyX0 tyX0_ok nmX0 hown hK hP hD hS 0 rfl rfl 2 (by decide) (hts _ wfX0_21) (fun _ h9 => h9) rfl hin rfl (by decide +kernel) rfl rfl (Nat.le_of_ble_eq_true rfl) (Dc 13 (25, .putfield 21, 3) rfl) (fun H locs hP hD hS => ?_)
  have hP : va_P D cv_cl [(q, .inr (0, [.ref a1, .ref a2, .ref a3, .null, .null, .int 0, .int 0])), (a1, .inl (cA 2, 6, .inr (.inr (.inr (.inr (fun _ => none)))))), (a2, .inl (cA 0, 8, .inl (fun _ => 0))), (a3, .inl (cA 0, 3, .inl (fun _ => 0)))] H := hP
  have hD : va_D A [(q, .inr (0, [.ref a1, .ref a2, .ref a3, .null, .null, .int 0, .int 0])), (a1, .inl (cA 2, 6, .inr (.inr (.inr (.inr (fun _ => none)))))), (a2, .inl (cA 0, 8, .inl (fun _ => 0))), (a3, .inl (cA 0, 3, .inl (fun _ => 0)))] := hD
  refine lv_aload_n hx hb (Dc 14 (28, .aload_n 0, 1) rfl) rfl (lv_at hl 0 rfl) ?_
  refine lv_bipush (v := nI 24) hx hb (Dc 15 (29, .bipush 24, 2) rfl) (by decide) ?_
  refine cv_newi (N' := 24) hx hb hts hK hP hD hS hA (by decide) (by decide) (by decide) (Nat.le_of_ble_eq_true rfl) (Nat.le_of_ble_eq_true rfl) (Dc 16 (31, .newarray .int, 2) rfl) (fun a4 H hP hD hS => ?_)
  have hP : va_P D cv_cl [(q, .inr (0, [.ref a1, .ref a2, .ref a3, .null, .null, .int 0, .int 0])), (a1, .inl (cA 2, 6, .inr (.inr (.inr (.inr (fun _ => none)))))), (a2, .inl (cA 0, 8, .inl (fun _ => 0))), (a3, .inl (cA 0, 3, .inl (fun _ => 0))), (a4, .inl (cA 0, 24, .inl (fun _ => 0)))] H := hP
  have hD : va_D A [(q, .inr (0, [.ref a1, .ref a2, .ref a3, .null, .null, .int 0, .int 0])), (a1, .inl (cA 2, 6, .inr (.inr (.inr (.inr (fun _ => none)))))), (a2, .inl (cA 0, 8, .inl (fun _ => 0))), (a3, .inl (cA 0, 3, .inl (fun _ => 0))), (a4, .inl (cA 0, 24, .inl (fun _ => 0)))] := hD
  refine W.widen (k := 4) (n := 41) (by decide) (by decide) ?_
  refine va_putF (D := D) (ci := 0) (v := .ref a4) (ty := .array .int) (C := RX0) (T := TX0) (N := 7) hx hb hts iw_X0 tyX0 tyX0_ok nmX0 hown hK hP hD hS 0 rfl rfl 3 (by decide) (hts _ wfX0_24) (fun _ h9 => h9) rfl hin rfl (by decide +kernel) rfl rfl (Nat.le_of_ble_eq_true rfl) (Dc 17 (33, .putfield 24, 3) rfl) (fun H locs hP hD hS => ?_)
  have hP : va_P D cv_cl [(q, .inr (0, [.ref a1, .ref a2, .ref a3, .ref a4, .null, .int 0, .int 0])), (a1, .inl (cA 2, 6, .inr (.inr (.inr (.inr (fun _ => none)))))), (a2, .inl (cA 0, 8, .inl (fun _ => 0))), (a3, .inl (cA 0, 3, .inl (fun _ => 0))), (a4, .inl (cA 0, 24, .inl (fun _ => 0)))] H := hP
  have hD : va_D A [(q, .inr (0, [.ref a1, .ref a2, .ref a3, .ref a4, .null, .int 0, .int 0])), (a1, .inl (cA 2, 6, .inr (.inr (.inr (.inr (fun _ => none)))))), (a2, .inl (cA 0, 8, .inl (fun _ => 0))), (a3, .inl (cA 0, 3, .inl (fun _ => 0))), (a4, .inl (cA 0, 24, .inl (fun _ => 0)))] := hD
  refine lv_aload_n hx hb (Dc 18 (36, .aload_n 0, 1) rfl) rfl (lv_at hl 0 rfl) ?_
  refine lv_bipush (v := nI 48) hx hb (Dc 19 (37, .bipush 48, 2) rfl) (by decide) ?_
  refine cv_newi (N' := 48) hx hb hts hK hP hD hS hA (by decide) (by decide) (by decide) (Nat.le_of_ble_eq_true rfl) (Nat.le_of_ble_eq_true rfl) (Dc 20 (39, .newarray .int, 2) rfl) (fun a5 H hP hD hS => ?_)
  have hP : va_P D cv_cl [(q, .inr (0, [.ref a1, .ref a2, .ref a3, .ref a4, .null, .int 0, .int 0])), (a1, .inl (cA 2, 6, .inr (.inr (.inr (.inr (fun _ => none)))))), (a2, .inl (cA 0, 8, .inl (fun _ => 0))), (a3, .inl (cA 0, 3, .inl (fun _ => 0))), (a4, .inl (cA 0, 24, .inl (fun _ => 0))), (a5, .inl (cA 0, 48, .inl (fun _ => 0)))] H := hP
  have hD : va_D A [(q, .inr (0, [.ref a1, .ref a2, .ref a3, .ref a4, .null, .int 0, .int 0])), (a1, .inl (cA 2, 6, .inr (.inr (.inr (.inr (fun _ => none)))))), (a2, .inl (cA 0, 8, .inl (fun _ => 0))), (a3, .inl (cA 0, 3, .inl (fun _ => 0))), (a4, .inl (cA 0, 24, .inl (fun _ => 0))), (a5, .inl (cA 0, 48, .inl (fun _ => 0)))] := hD
  refine W.widen (k := 5) (n := 89) (by decide) (by decide) ?_
  refine va_putF (D := D) (ci := 0) (v := .ref a5) (ty := .array .int) (C := RX0) (T := TX0) (N := 7) hx hb hts iw_X0 tyX0 tyX0_ok nmX0 hown hK hP hD hS 0 rfl rfl 4 (by decide) (hts _ wfX0_27) (fun _ h9 => h9) rfl hin rfl (by decide +kernel) rfl rfl (Nat.le_of_ble_eq_true rfl) (Dc 21 (41, .putfield 27, 3) rfl) (fun H locs hP hD hS => ?_)
  have hP : va_P D cv_cl [(q, .inr (0, [.ref a1, .ref a2, .ref a3, .ref a4, .ref a5, .int 0, .int 0])), (a1, .inl (cA 2, 6, .inr (.inr (.inr (.inr (fun _ => none)))))), (a2, .inl (cA 0, 8, .inl (fun _ => 0))), (a3, .inl (cA 0, 3, .inl (fun _ => 0))), (a4, .inl (cA 0, 24, .inl (fun _ => 0))), (a5, .inl (cA 0, 48, .inl (fun _ => 0)))] H := hP
  have hD : va_D A [(q, .inr (0, [.ref a1, .ref a2, .ref a3, .ref a4, .ref a5, .int 0, .int 0])), (a1, .inl (cA 2, 6, .inr (.inr (.inr (.inr (fun _ => none)))))), (a2, .inl (cA 0, 8, .inl (fun _ => 0))), (a3, .inl (cA 0, 3, .inl (fun _ => 0))), (a4, .inl (cA 0, 24, .inl (fun _ => 0))), (a5, .inl (cA 0, 48, .inl (fun _ => 0)))] := hD
  refine lv_iconst (v := nI 0) hx hb (Dc 22 (44, .iconst 0, 1) rfl) (by decide) ?_
  refine lv_istore_n (lv' := [(1, .int (nI 0)), (0, .ref q)]) hx hb (Dc 23 (45, .istore_n 1, 1) rfl) rfl hl (by decide) rfl (fun ls hl => ?_)
  refine lv_iload_n hx hb (Dc 24 (46, .iload_n 1, 1) rfl) rfl (lv_at hl 0 rfl) ?_
  refine lv_bipush (v := nI 6) hx hb (Dc 25 (47, .bipush 6, 2) rfl) (by decide) ?_
  refine lv_icmp_ge (tgt := 71) hx hb (Dc 26 (49, .if_icmp .ge 22, 3) rfl) (by decide) (fun h => absurd h (by decide)) (fun _ => ?_)
  refine lv_aload_n hx hb (Dc 27 (52, .aload_n 0, 1) rfl) rfl (lv_at hl 1 rfl) ?_
  refine va_get (D := D) (ci := 0) (C := RX0) (T := TX0) (N := 7) (v := .ref a1) hx hb hts iw_X0 hown hK hP 0 rfl rfl 0 (by decide) (hts _ wfX0_11) (fun _ h => h) rfl (Dc 28 (53, .getfield 11, 3) rfl) ?_
  refine lv_iload_n hx hb (Dc 29 (56, .iload_n 1, 1) rfl) rfl (lv_at hl 0 rfl) ?_
  refine va_new (ci := 1) (fs := [.int 0, .int 0, .int 0, .int 0, .int 0]) (C := RX1) (T := TX1) (N := 5) hx hb hts iw_X1 tyX1 tyX1_ok hown (hts _ wkX0_9) (hts _ wb_X1) (hts _ wn_X1) hK hP hD hS hA rfl (fun j hj => by match j, hj with | 0, _ => rfl | 1, _ => rfl | 2, _ => rfl | 3, _ => rfl | 4, _ => rfl) (Nat.le_of_ble_eq_true rfl) (Nat.le_of_ble_eq_true rfl) (Dc 30 (57, .new 9, 3) rfl) (fun a6 H hP hD hS => ?_)
  have hP : va_P D cv_cl [(q, .inr (0, [.ref a1, .ref a2, .ref a3, .ref a4, .ref a5, .int 0, .int 0])), (a1, .inl (cA 2, 6, .inr (.inr (.inr (.inr (fun _ => none)))))), (a2, .inl (cA 0, 8, .inl (fun _ => 0))), (a3, .inl (cA 0, 3, .inl (fun _ => 0))), (a4, .inl (cA 0, 24, .inl (fun _ => 0))), (a5, .inl (cA 0, 48, .inl (fun _ => 0))), (a6, .inr (1, [.int 0, .int 0, .int 0, .int 0, .int 0]))] H := hP
  have hD : va_D A [(q, .inr (0, [.ref a1, .ref a2, .ref a3, .ref a4, .ref a5, .int 0, .int 0])), (a1, .inl (cA 2, 6, .inr (.inr (.inr (.inr (fun _ => none)))))), (a2, .inl (cA 0, 8, .inl (fun _ => 0))), (a3, .inl (cA 0, 3, .inl (fun _ => 0))), (a4, .inl (cA 0, 24, .inl (fun _ => 0))), (a5, .inl (cA 0, 48, .inl (fun _ => 0))), (a6, .inr (1, [.int 0, .int 0, .int 0, .int 0, .int 0]))] := hD
  refine W.widen (k := 6) (n := 94) (by decide) (by decide) ?_
  refine lv_dup hx hb (Dc 31 (60, .dup, 1) rfl) rfl ?_
  have hPc := hP.sub (ws' := [(a6, .inr (1, [.int 0, .int 0, .int 0, .int 0, .int 0]))]) [6] rfl
  have hDc := hD.sub (ws' := [(a6, .inr (1, [.int 0, .int 0, .int 0, .int 0, .int 0]))]) [6] (by decide) rfl
  have hFc := va_free (wc := [(a6, .inr (1, [.int 0, .int 0, .int 0, .int 0, .int 0]))]) hD hS hA [6] rfl
  refine va_callv (va_runIN (As := []) (rest := [.ref a6, .int (nI 0), .ref a1]) (host := RX6) ⟨hx, hb, hml, hown, hts⟩ (kX1_init l D cA a6 H.size) ⟨va_cnB 0 hts (cv_good wc_yX1_init) rfl rfl rfl (hN _ weX0_30) (hts _ wn_X1) (by decide +kernel) ⟨Nat.le_of_ble_eq_true rfl, Nat.le_of_ble_eq_true rfl⟩, rfl, hts _ wi_yX1_init⟩ ⟨cv_Bt_blind, fun U hU hW => ⟨rfl, by rw [hU], by rw [hU]; exact hPc, va_K.moved hW.alike hK, hDc.weaken (fun _ _ _ _ => trivial), cv_NW_warm hW hN, va_AO.moved hW.alike hO3, va_AO.moved hW.alike hO1⟩⟩ rfl rfl hl.1 rfl (lv_room (Nat.le_of_ble_eq_true rfl)) (Dc 32 (61, .invokespecial 30, 3) rfl) ⟨Nat.le_of_ble_eq_true rfl, Nat.le_of_ble_eq_true rfl⟩) hS (fun z _ h => hFc z h) hFc (fun ws1 t H1 locs ht hvm hw hB hz1 hk1 hS => ?_)
  subst hw
  obtain ⟨hP1, hD1⟩ := hB
  rw [ht] at hP1
  obtain ⟨hP, hD⟩ := va_join (wr := [(q, .inr (0, [.ref a1, .ref a2, .ref a3, .ref a4, .ref a5, .int 0, .int 0])), (a1, .inl (cA 2, 6, .inr (.inr (.inr (.inr (fun _ => none)))))), (a2, .inl (cA 0, 8, .inl (fun _ => 0))), (a3, .inl (cA 0, 3, .inl (fun _ => 0))), (a4, .inl (cA 0, 24, .inl (fun _ => 0))), (a5, .inl (cA 0, 48, .inl (fun _ => 0)))]) (w1 := [(a6, .inr (1, [.int 0, .int 0, .int 0, .int 0, .int 0]))]) hP hD [6] [0, 1, 2, 3, 4, 5] rfl rfl (by decide) (by decide) hk1 hFc hP1 hD1
  generalize H1 = H at hP hS ⊢
  have hP : va_P D cv_cl [(q, .inr (0, [.ref a1, .ref a2, .ref a3, .ref a4, .ref a5, .int 0, .int 0])), (a1, .inl (cA 2, 6, .inr (.inr (.inr (.inr (fun _ => none)))))), (a2, .inl (cA 0, 8, .inl (fun _ => 0))), (a3, .inl (cA 0, 3, .inl (fun _ => 0))), (a4, .inl (cA 0, 24, .inl (fun _ => 0))), (a5, .inl (cA 0, 48, .inl (fun _ => 0))), (a6, .inr (1, [.int 0, .int 0, .int 0, .int 0, .int 0]))] H := hP
  have hD : va_D A [(q, .inr (0, [.ref a1, .ref a2, .ref a3, .ref a4, .ref a5, .int 0, .int 0])), (a1, .inl (cA 2, 6, .inr (.inr (.inr (.inr (fun _ => none)))))), (a2, .inl (cA 0, 8, .inl (fun _ => 0))), (a3, .inl (cA 0, 3, .inl (fun _ => 0))), (a4, .inl (cA 0, 24, .inl (fun _ => 0))), (a5, .inl (cA 0, 48, .inl (fun _ => 0))), (a6, .inr (1, [.int 0, .int 0, .int 0, .int 0, .int 0]))] := hD
  refine W.widen (k := 6) (n := 94) (by decide) (by decide) ?_
  refine va_astq (r := (RX1, TX1, 5)) hx hb hK hP hD hS 1 2 6 1 rfl rfl rfl rfl (vp_in_nI (N := 6) (n := 0) (by decide) (by decide)) (Dc 33 (64, .aastore, 1) rfl) (fun H locs hP hD hS => ?_)
  have hP : va_P D cv_cl [(q, .inr (0, [.ref a1, .ref a2, .ref a3, .ref a4, .ref a5, .int 0, .int 0])), (a1, .inl (cA 2, 6, .inr (.inr (.inr (.inr (va_up (fun _ => none) (nI 0).toNatClampNeg (some a6))))))), (a2, .inl (cA 0, 8, .inl (fun _ => 0))), (a3, .inl (cA 0, 3, .inl (fun _ => 0))), (a4, .inl (cA 0, 24, .inl (fun _ => 0))), (a5, .inl (cA 0, 48, .inl (fun _ => 0))), (a6, .inr (1, [.int 0, .int 0, .int 0, .int 0, .int 0]))] H := hP
  have hD : va_D A [(q, .inr (0, [.ref a1, .ref a2, .ref a3, .ref a4, .ref a5, .int 0, .int 0])), (a1, .inl (cA 2, 6, .inr (.inr (.inr (.inr (va_up (fun _ => none) (nI 0).toNatClampNeg (some a6))))))), (a2, .inl (cA 0, 8, .inl (fun _ => 0))), (a3, .inl (cA 0, 3, .inl (fun _ => 0))), (a4, .inl (cA 0, 24, .inl (fun _ => 0))), (a5, .inl (cA 0, 48, .inl (fun _ => 0))), (a6, .inr (1, [.int 0, .int 0, .int 0, .int 0, .int 0]))] := hD
  refine lv_iinc (v := nI 1) (lv' := [(1, .int (nI 1)), (0, .ref q)]) hx hb (Dc 34 (65, .iinc 1 1, 3) rfl) hl (k := 0) rfl (by decide) (by decide) rfl (fun ls hl => ?_)
  refine lv_goto (tgt := 46) hx hb (Dc 35 (68, .goto (-22), 3) rfl) (by decide) ?_
  refine lv_iload_n hx hb (Dc 24 (46, .iload_n 1, 1) rfl) rfl (lv_at hl 0 rfl) ?_
  refine lv_bipush (v := nI 6) hx hb (Dc 25 (47, .bipush 6, 2) rfl) (by decide) ?_
  refine lv_icmp_ge (tgt := 71) hx hb (Dc 26 (49, .if_icmp .ge 22, 3) rfl) (by decide) (fun h => absurd h (by decide)) (fun _ => ?_)
  refine lv_aload_n hx hb (Dc 27 (52, .aload_n 0, 1) rfl) rfl (lv_at hl 1 rfl) ?_
  refine va_get (D := D) (ci := 0) (C := RX0) (T := TX0) (N := 7) (v := .ref a1) hx hb hts iw_X0 hown hK hP 0 rfl rfl 0 (by decide) (hts _ wfX0_11) (fun _ h => h) rfl (Dc 28 (53, .getfield 11, 3) rfl) ?_
  refine lv_iload_n hx hb (Dc 29 (56, .iload_n 1, 1) rfl) rfl (lv_at hl 0 rfl) ?_
  refine va_new (ci := 1) (fs := [.int 0, .int 0, .int 0, .int 0, .int 0]) (C := RX1) (T := TX1) (N := 5) hx hb hts iw_X1 tyX1 tyX1_ok hown (hts _ wkX0_9) (hts _ wb_X1) (hts _ wn_X1) hK hP hD hS hA rfl (fun j hj => by match j, hj with | 0, _ => rfl | 1, _ => rfl | 2, _ => rfl | 3, _ => rfl | 4, _ => rfl) (Nat.le_of_ble_eq_true rfl) (Nat.le_of_ble_eq_true rfl) (Dc 30 (57, .new 9, 3) rfl) (fun a7 H hP hD hS => ?_)
  have hP : va_P D cv_cl [(q, .inr (0, [.ref a1, .ref a2, .ref a3, .ref a4, .ref a5, .int 0, .int 0])), (a1, .inl (cA 2, 6, .inr (.inr (.inr (.inr (va_up (fun _ => none) (nI 0).toNatClampNeg (some a6))))))), (a2, .inl (cA 0, 8, .inl (fun _ => 0))), (a3, .inl (cA 0, 3, .inl (fun _ => 0))), (a4, .inl (cA 0, 24, .inl (fun _ => 0))), (a5, .inl (cA 0, 48, .inl (fun _ => 0))), (a6, .inr (1, [.int 0, .int 0, .int 0, .int 0, .int 0])), (a7, .inr (1, [.int 0, .int 0, .int 0, .int 0, .int 0]))] H := hP
  have hD : va_D A [(q, .inr (0, [.ref a1, .ref a2, .ref a3, .ref a4, .ref a5, .int 0, .int 0])), (a1, .inl (cA 2, 6, .inr (.inr (.inr (.inr (va_up (fun _ => none) (nI 0).toNatClampNeg (some a6))))))), (a2, .inl (cA 0, 8, .inl (fun _ => 0))), (a3, .inl (cA 0, 3, .inl (fun _ => 0))), (a4, .inl (cA 0, 24, .inl (fun _ => 0))), (a5, .inl (cA 0, 48, .inl (fun _ => 0))), (a6, .inr (1, [.int 0, .int 0, .int 0, .int 0, .int 0])), (a7, .inr (1, [.int 0, .int 0, .int 0, .int 0, .int 0]))] := hD
  refine W.widen (k := 7) (n := 99) (by decide) (by decide) ?_
  refine lv_dup hx hb (Dc 31 (60, .dup, 1) rfl) rfl ?_
  have hPc := hP.sub (ws' := [(a7, .inr (1, [.int 0, .int 0, .int 0, .int 0, .int 0]))]) [7] rfl
  have hDc := hD.sub (ws' := [(a7, .inr (1, [.int 0, .int 0, .int 0, .int 0, .int 0]))]) [7] (by decide) rfl
  have hFc := va_free (wc := [(a7, .inr (1, [.int 0, .int 0, .int 0, .int 0, .int 0]))]) hD hS hA [7] rfl
  refine va_callv (va_runIN (As := []) (rest := [.ref a7, .int (nI 1), .ref a1]) (host := RX6) ⟨hx, hb, hml, hown, hts⟩ (kX1_init l D cA a7 H.size) ⟨va_cnB 0 hts (cv_good wc_yX1_init) rfl rfl rfl (hN _ weX0_30) (hts _ wn_X1) (by decide +kernel) ⟨Nat.le_of_ble_eq_true rfl, Nat.le_of_ble_eq_true rfl⟩, rfl, hts _ wi_yX1_init⟩ ⟨cv_Bt_blind, fun U hU hW => ⟨rfl, by rw [hU], by rw [hU]; exact hPc, va_K.moved hW.alike hK, hDc.weaken (fun _ _ _ _ => trivial), cv_NW_warm hW hN, va_AO.moved hW.alike hO3, va_AO.moved hW.alike hO1⟩⟩ rfl rfl hl.1 rfl (lv_room (Nat.le_of_ble_eq_true rfl)) (Dc 32 (61, .invokespecial 30, 3) rfl) ⟨Nat.le_of_ble_eq_true rfl, Nat.le_of_ble_eq_true rfl⟩) hS (fun z _ h => hFc z h) hFc (fun ws1 t H1 locs ht hvm hw hB hz1 hk1 hS => ?_)
  subst hw
  obtain ⟨hP1, hD1⟩ := hB
  rw [ht] at hP1
  obtain ⟨hP, hD⟩ := va_join (wr := [(q, .inr (0, [.ref a1, .ref a2, .ref a3, .ref a4, .ref a5, .int 0, .int 0])), (a1, .inl (cA 2, 6, .inr (.inr (.inr (.inr (va_up (fun _ => none) (nI 0).toNatClampNeg (some a6))))))), (a2, .inl (cA 0, 8, .inl (fun _ => 0))), (a3, .inl (cA 0, 3, .inl (fun _ => 0))), (a4, .inl (cA 0, 24, .inl (fun _ => 0))), (a5, .inl (cA 0, 48, .inl (fun _ => 0))), (a6, .inr (1, [.int 0, .int 0, .int 0, .int 0, .int 0]))]) (w1 := [(a7, .inr (1, [.int 0, .int 0, .int 0, .int 0, .int 0]))]) hP hD [7] [0, 1, 2, 3, 4, 5, 6] rfl rfl (by decide) (by decide) hk1 hFc hP1 hD1
  generalize H1 = H at hP hS ⊢
  have hP : va_P D cv_cl [(q, .inr (0, [.ref a1, .ref a2, .ref a3, .ref a4, .ref a5, .int 0, .int 0])), (a1, .inl (cA 2, 6, .inr (.inr (.inr (.inr (va_up (fun _ => none) (nI 0).toNatClampNeg (some a6))))))), (a2, .inl (cA 0, 8, .inl (fun _ => 0))), (a3, .inl (cA 0, 3, .inl (fun _ => 0))), (a4, .inl (cA 0, 24, .inl (fun _ => 0))), (a5, .inl (cA 0, 48, .inl (fun _ => 0))), (a6, .inr (1, [.int 0, .int 0, .int 0, .int 0, .int 0])), (a7, .inr (1, [.int 0, .int 0, .int 0, .int 0, .int 0]))] H := hP
  have hD : va_D A [(q, .inr (0, [.ref a1, .ref a2, .ref a3, .ref a4, .ref a5, .int 0, .int 0])), (a1, .inl (cA 2, 6, .inr (.inr (.inr (.inr (va_up (fun _ => none) (nI 0).toNatClampNeg (some a6))))))), (a2, .inl (cA 0, 8, .inl (fun _ => 0))), (a3, .inl (cA 0, 3, .inl (fun _ => 0))), (a4, .inl (cA 0, 24, .inl (fun _ => 0))), (a5, .inl (cA 0, 48, .inl (fun _ => 0))), (a6, .inr (1, [.int 0, .int 0, .int 0, .int 0, .int 0])), (a7, .inr (1, [.int 0, .int 0, .int 0, .int 0, .int 0]))] := hD
  refine W.widen (k := 7) (n := 99) (by decide) (by decide) ?_
  refine va_astq (r := (RX1, TX1, 5)) hx hb hK hP hD hS 1 2 7 1 rfl rfl rfl rfl (vp_in_nI (N := 6) (n := 1) (by decide) (by decide)) (Dc 33 (64, .aastore, 1) rfl) (fun H locs hP hD hS => ?_)
  have hP : va_P D cv_cl [(q, .inr (0, [.ref a1, .ref a2, .ref a3, .ref a4, .ref a5, .int 0, .int 0])), (a1, .inl (cA 2, 6, .inr (.inr (.inr (.inr (va_up (va_up (fun _ => none) (nI 0).toNatClampNeg (some a6)) (nI 1).toNatClampNeg (some a7))))))), (a2, .inl (cA 0, 8, .inl (fun _ => 0))), (a3, .inl (cA 0, 3, .inl (fun _ => 0))), (a4, .inl (cA 0, 24, .inl (fun _ => 0))), (a5, .inl (cA 0, 48, .inl (fun _ => 0))), (a6, .inr (1, [.int 0, .int 0, .int 0, .int 0, .int 0])), (a7, .inr (1, [.int 0, .int 0, .int 0, .int 0, .int 0]))] H := hP
  have hD : va_D A [(q, .inr (0, [.ref a1, .ref a2, .ref a3, .ref a4, .ref a5, .int 0, .int 0])), (a1, .inl (cA 2, 6, .inr (.inr (.inr (.inr (va_up (va_up (fun _ => none) (nI 0).toNatClampNeg (some a6)) (nI 1).toNatClampNeg (some a7))))))), (a2, .inl (cA 0, 8, .inl (fun _ => 0))), (a3, .inl (cA 0, 3, .inl (fun _ => 0))), (a4, .inl (cA 0, 24, .inl (fun _ => 0))), (a5, .inl (cA 0, 48, .inl (fun _ => 0))), (a6, .inr (1, [.int 0, .int 0, .int 0, .int 0, .int 0])), (a7, .inr (1, [.int 0, .int 0, .int 0, .int 0, .int 0]))] := hD
  refine lv_iinc (v := nI 2) (lv' := [(1, .int (nI 2)), (0, .ref q)]) hx hb (Dc 34 (65, .iinc 1 1, 3) rfl) hl (k := 0) rfl (by decide) (by decide) rfl (fun ls hl => ?_)
  refine lv_goto (tgt := 46) hx hb (Dc 35 (68, .goto (-22), 3) rfl) (by decide) ?_
  refine lv_iload_n hx hb (Dc 24 (46, .iload_n 1, 1) rfl) rfl (lv_at hl 0 rfl) ?_
  refine lv_bipush (v := nI 6) hx hb (Dc 25 (47, .bipush 6, 2) rfl) (by decide) ?_
  refine lv_icmp_ge (tgt := 71) hx hb (Dc 26 (49, .if_icmp .ge 22, 3) rfl) (by decide) (fun h => absurd h (by decide)) (fun _ => ?_)
  refine lv_aload_n hx hb (Dc 27 (52, .aload_n 0, 1) rfl) rfl (lv_at hl 1 rfl) ?_
  refine va_get (D := D) (ci := 0) (C := RX0) (T := TX0) (N := 7) (v := .ref a1) hx hb hts iw_X0 hown hK hP 0 rfl rfl 0 (by decide) (hts _ wfX0_11) (fun _ h => h) rfl (Dc 28 (53, .getfield 11, 3) rfl) ?_
  refine lv_iload_n hx hb (Dc 29 (56, .iload_n 1, 1) rfl) rfl (lv_at hl 0 rfl) ?_
  refine va_new (ci := 1) (fs := [.int 0, .int 0, .int 0, .int 0, .int 0]) (C := RX1) (T := TX1) (N := 5) hx hb hts iw_X1 tyX1 tyX1_ok hown (hts _ wkX0_9) (hts _ wb_X1) (hts _ wn_X1) hK hP hD hS hA rfl (fun j hj => by match j, hj with | 0, _ => rfl | 1, _ => rfl | 2, _ => rfl | 3, _ => rfl | 4, _ => rfl) (Nat.le_of_ble_eq_true rfl) (Nat.le_of_ble_eq_true rfl) (Dc 30 (57, .new 9, 3) rfl) (fun a8 H hP hD hS => ?_)
  have hP : va_P D cv_cl [(q, .inr (0, [.ref a1, .ref a2, .ref a3, .ref a4, .ref a5, .int 0, .int 0])), (a1, .inl (cA 2, 6, .inr (.inr (.inr (.inr (va_up (va_up (fun _ => none) (nI 0).toNatClampNeg (some a6)) (nI 1).toNatClampNeg (some a7))))))), (a2, .inl (cA 0, 8, .inl (fun _ => 0))), (a3, .inl (cA 0, 3, .inl (fun _ => 0))), (a4, .inl (cA 0, 24, .inl (fun _ => 0))), (a5, .inl (cA 0, 48, .inl (fun _ => 0))), (a6, .inr (1, [.int 0, .int 0, .int 0, .int 0, .int 0])), (a7, .inr (1, [.int 0, .int 0, .int 0, .int 0, .int 0])), (a8, .inr (1, [.int 0, .int 0, .int 0, .int 0, .int 0]))] H := hP
  have hD : va_D A [(q, .inr (0, [.ref a1, .ref a2, .ref a3, .ref a4, .ref a5, .int 0, .int 0])), (a1, .inl (cA 2, 6, .inr (.inr (.inr (.inr (va_up (va_up (fun _ => none) (nI 0).toNatClampNeg (some a6)) (nI 1).toNatClampNeg (some a7))))))), (a2, .inl (cA 0, 8, .inl (fun _ => 0))), (a3, .inl (cA 0, 3, .inl (fun _ => 0))), (a4, .inl (cA 0, 24, .inl (fun _ => 0))), (a5, .inl (cA 0, 48, .inl (fun _ => 0))), (a6, .inr (1, [.int 0, .int 0, .int 0, .int 0, .int 0])), (a7, .inr (1, [.int 0, .int 0, .int 0, .int 0, .int 0])), (a8, .inr (1, [.int 0, .int 0, .int 0, .int 0, .int 0]))] := hD
  refine W.widen (k := 8) (n := 104) (by decide) (by decide) ?_
  refine lv_dup hx hb (Dc 31 (60, .dup, 1) rfl) rfl ?_
  have hPc := hP.sub (ws' := [(a8, .inr (1, [.int 0, .int 0, .int 0, .int 0, .int 0]))]) [8] rfl
  have hDc := hD.sub (ws' := [(a8, .inr (1, [.int 0, .int 0, .int 0, .int 0, .int 0]))]) [8] (by decide) rfl
  have hFc := va_free (wc := [(a8, .inr (1, [.int 0, .int 0, .int 0, .int 0, .int 0]))]) hD hS hA [8] rfl
  refine va_callv (va_runIN (As := []) (rest := [.ref a8, .int (nI 2), .ref a1]) (host := RX6) ⟨hx, hb, hml, hown, hts⟩ (kX1_init l D cA a8 H.size) ⟨va_cnB 0 hts (cv_good wc_yX1_init) rfl rfl rfl (hN _ weX0_30) (hts _ wn_X1) (by decide +kernel) ⟨Nat.le_of_ble_eq_true rfl, Nat.le_of_ble_eq_true rfl⟩, rfl, hts _ wi_yX1_init⟩ ⟨cv_Bt_blind, fun U hU hW => ⟨rfl, by rw [hU], by rw [hU]; exact hPc, va_K.moved hW.alike hK, hDc.weaken (fun _ _ _ _ => trivial), cv_NW_warm hW hN, va_AO.moved hW.alike hO3, va_AO.moved hW.alike hO1⟩⟩ rfl rfl hl.1 rfl (lv_room (Nat.le_of_ble_eq_true rfl)) (Dc 32 (61, .invokespecial 30, 3) rfl) ⟨Nat.le_of_ble_eq_true rfl, Nat.le_of_ble_eq_true rfl⟩) hS (fun z _ h => hFc z h) hFc (fun ws1 t H1 locs ht hvm hw hB hz1 hk1 hS => ?_)
  subst hw
  obtain ⟨hP1, hD1⟩ := hB
  rw [ht] at hP1
  obtain ⟨hP, hD⟩ := va_join (wr := [(q, .inr (0, [.ref a1, .ref a2, .ref a3, .ref a4, .ref a5, .int 0, .int 0])), (a1, .inl (cA 2, 6, .inr (.inr (.inr (.inr (va_up (va_up (fun _ => none) (nI 0).toNatClampNeg (some a6)) (nI 1).toNatClampNeg (some a7))))))), (a2, .inl (cA 0, 8, .inl (fun _ => 0))), (a3, .inl (cA 0, 3, .inl (fun _ => 0))), (a4, .inl (cA 0, 24, .inl (fun _ => 0))), (a5, .inl (cA 0, 48, .inl (fun _ => 0))), (a6, .inr (1, [.int 0, .int 0, .int 0, .int 0, .int 0])), (a7, .inr (1, [.int 0, .int 0, .int 0, .int 0, .int 0]))]) (w1 := [(a8, .inr (1, [.int 0, .int 0, .int 0, .int 0, .int 0]))]) hP hD [8] [0, 1, 2, 3, 4, 5, 6, 7] rfl rfl (by decide) (by decide) hk1 hFc hP1 hD1
  generalize H1 = H at hP hS ⊢
  have hP : va_P D cv_cl [(q, .inr (0, [.ref a1, .ref a2, .ref a3, .ref a4, .ref a5, .int 0, .int 0])), (a1, .inl (cA 2, 6, .inr (.inr (.inr (.inr (va_up (va_up (fun _ => none) (nI 0).toNatClampNeg (some a6)) (nI 1).toNatClampNeg (some a7))))))), (a2, .inl (cA 0, 8, .inl (fun _ => 0))), (a3, .inl (cA 0, 3, .inl (fun _ => 0))), (a4, .inl (cA 0, 24, .inl (fun _ => 0))), (a5, .inl (cA 0, 48, .inl (fun _ => 0))), (a6, .inr (1, [.int 0, .int 0, .int 0, .int 0, .int 0])), (a7, .inr (1, [.int 0, .int 0, .int 0, .int 0, .int 0])), (a8, .inr (1, [.int 0, .int 0, .int 0, .int 0, .int 0]))] H := hP
  have hD : va_D A [(q, .inr (0, [.ref a1, .ref a2, .ref a3, .ref a4, .ref a5, .int 0, .int 0])), (a1, .inl (cA 2, 6, .inr (.inr (.inr (.inr (va_up (va_up (fun _ => none) (nI 0).toNatClampNeg (some a6)) (nI 1).toNatClampNeg (some a7))))))), (a2, .inl (cA 0, 8, .inl (fun _ => 0))), (a3, .inl (cA 0, 3, .inl (fun _ => 0))), (a4, .inl (cA 0, 24, .inl (fun _ => 0))), (a5, .inl (cA 0, 48, .inl (fun _ => 0))), (a6, .inr (1, [.int 0, .int 0, .int 0, .int 0, .int 0])), (a7, .inr (1, [.int 0, .int 0, .int 0, .int 0, .int 0])), (a8, .inr (1, [.int 0, .int 0, .int 0, .int 0, .int 0]))] := hD
  refine W.widen (k := 8) (n := 104) (by decide) (by decide) ?_
  refine va_astq (r := (RX1, TX1, 5)) hx hb hK hP hD hS 1 2 8 1 rfl rfl rfl rfl (vp_in_nI (N := 6) (n := 2) (by decide) (by decide)) (Dc 33 (64, .aastore, 1) rfl) (fun H locs hP hD hS => ?_)
  have hP : va_P D cv_cl [(q, .inr (0, [.ref a1, .ref a2, .ref a3, .ref a4, .ref a5, .int 0, .int 0])), (a1, .inl (cA 2, 6, .inr (.inr (.inr (.inr (va_up (va_up (va_up (fun _ => none) (nI 0).toNatClampNeg (some a6)) (nI 1).toNatClampNeg (some a7)) (nI 2).toNatClampNeg (some a8))))))), (a2, .inl (cA 0, 8, .inl (fun _ => 0))), (a3, .inl (cA 0, 3, .inl (fun _ => 0))), (a4, .inl (cA 0, 24, .inl (fun _ => 0))), (a5, .inl (cA 0, 48, .inl (fun _ => 0))), (a6, .inr (1, [.int 0, .int 0, .int 0, .int 0, .int 0])), (a7, .inr (1, [.int 0, .int 0, .int 0, .int 0, .int 0])), (a8, .inr (1, [.int 0, .int 0, .int 0, .int 0, .int 0]))] H := hP
  have hD : va_D A [(q, .inr (0, [.ref a1, .ref a2, .ref a3, .ref a4, .ref a5, .int 0, .int 0])), (a1, .inl (cA 2, 6, .inr (.inr (.inr (.inr (va_up (va_up (va_up (fun _ => none) (nI 0).toNatClampNeg (some a6)) (nI 1).toNatClampNeg (some a7)) (nI 2).toNatClampNeg (some a8))))))), (a2, .inl (cA 0, 8, .inl (fun _ => 0))), (a3, .inl (cA 0, 3, .inl (fun _ => 0))), (a4, .inl (cA 0, 24, .inl (fun _ => 0))), (a5, .inl (cA 0, 48, .inl (fun _ => 0))), (a6, .inr (1, [.int 0, .int 0, .int 0, .int 0, .int 0])), (a7, .inr (1, [.int 0, .int 0, .int 0, .int 0, .int 0])), (a8, .inr (1, [.int 0, .int 0, .int 0, .int 0, .int 0]))] := hD
  refine lv_iinc (v := nI 3) (lv' := [(1, .int (nI 3)), (0, .ref q)]) hx hb (Dc 34 (65, .iinc 1 1, 3) rfl) hl (k := 0) rfl (by decide) (by decide) rfl (fun ls hl => ?_)
  refine lv_goto (tgt := 46) hx hb (Dc 35 (68, .goto (-22), 3) rfl) (by decide) ?_
  refine lv_iload_n hx hb (Dc 24 (46, .iload_n 1, 1) rfl) rfl (lv_at hl 0 rfl) ?_
  refine lv_bipush (v := nI 6) hx hb (Dc 25 (47, .bipush 6, 2) rfl) (by decide) ?_
  refine lv_icmp_ge (tgt := 71) hx hb (Dc 26 (49, .if_icmp .ge 22, 3) rfl) (by decide) (fun h => absurd h (by decide)) (fun _ => ?_)
  refine lv_aload_n hx hb (Dc 27 (52, .aload_n 0, 1) rfl) rfl (lv_at hl 1 rfl) ?_
  refine va_get (D := D) (ci := 0) (C := RX0) (T := TX0) (N := 7) (v := .ref a1) hx hb hts iw_X0 hown hK hP 0 rfl rfl 0 (by decide) (hts _ wfX0_11) (fun _ h => h) rfl (Dc 28 (53, .getfield 11, 3) rfl) ?_
  refine lv_iload_n hx hb (Dc 29 (56, .iload_n 1, 1) rfl) rfl (lv_at hl 0 rfl) ?_
  refine va_new (ci := 1) (fs := [.int 0, .int 0, .int 0, .int 0, .int 0]) (C := RX1) (T := TX1) (N := 5) hx hb hts iw_X1 tyX1 tyX1_ok hown (hts _ wkX0_9) (hts _ wb_X1) (hts _ wn_X1) hK hP hD hS hA rfl (fun j hj => by match j, hj with | 0, _ => rfl | 1, _ => rfl | 2, _ => rfl | 3, _ => rfl | 4, _ => rfl) (Nat.le_of_ble_eq_true rfl) (Nat.le_of_ble_eq_true rfl) (Dc 30 (57, .new 9, 3) rfl) (fun a9 H hP hD hS => ?_)
  have hP : va_P D cv_cl [(q, .inr (0, [.ref a1, .ref a2, .ref a3, .ref a4, .ref a5, .int 0, .int 0])), (a1, .inl (cA 2, 6, .inr (.inr (.inr (.inr (va_up (va_up (va_up (fun _ => none) (nI 0).toNatClampNeg (some a6)) (nI 1).toNatClampNeg (some a7)) (nI 2).toNatClampNeg (some a8))))))), (a2, .inl (cA 0, 8, .inl (fun _ => 0))), (a3, .inl (cA 0, 3, .inl (fun _ => 0))), (a4, .inl (cA 0, 24, .inl (fun _ => 0))), (a5, .inl (cA 0, 48, .inl (fun _ => 0))), (a6, .inr (1, [.int 0, .int 0, .int 0, .int 0, .int 0])), (a7, .inr (1, [.int 0, .int 0, .int 0, .int 0, .int 0])), (a8, .inr (1, [.int 0, .int 0, .int 0, .int 0, .int 0])), (a9, .inr (1, [.int 0, .int 0, .int 0, .int 0, .int 0]))] H := hP
  have hD : va_D A [(q, .inr (0, [.ref a1, .ref a2, .ref a3, .ref a4, .ref a5, .int 0, .int 0])), (a1, .inl (cA 2, 6, .inr (.inr (.inr (.inr (va_up (va_up (va_up (fun _ => none) (nI 0).toNatClampNeg (some a6)) (nI 1).toNatClampNeg (some a7)) (nI 2).toNatClampNeg (some a8))))))), (a2, .inl (cA 0, 8, .inl (fun _ => 0))), (a3, .inl (cA 0, 3, .inl (fun _ => 0))), (a4, .inl (cA 0, 24, .inl (fun _ => 0))), (a5, .inl (cA 0, 48, .inl (fun _ => 0))), (a6, .inr (1, [.int 0, .int 0, .int 0, .int 0, .int 0])), (a7, .inr (1, [.int 0, .int 0, .int 0, .int 0, .int 0])), (a8, .inr (1, [.int 0, .int 0, .int 0, .int 0, .int 0])), (a9, .inr (1, [.int 0, .int 0, .int 0, .int 0, .int 0]))] := hD
  refine W.widen (k := 9) (n := 109) (by decide) (by decide) ?_
  refine lv_dup hx hb (Dc 31 (60, .dup, 1) rfl) rfl ?_
  have hPc := hP.sub (ws' := [(a9, .inr (1, [.int 0, .int 0, .int 0, .int 0, .int 0]))]) [9] rfl
  have hDc := hD.sub (ws' := [(a9, .inr (1, [.int 0, .int 0, .int 0, .int 0, .int 0]))]) [9] (by decide) rfl
  have hFc := va_free (wc := [(a9, .inr (1, [.int 0, .int 0, .int 0, .int 0, .int 0]))]) hD hS hA [9] rfl
  refine va_callv (va_runIN (As := []) (rest := [.ref a9, .int (nI 3), .ref a1]) (host := RX6) ⟨hx, hb, hml, hown, hts⟩ (kX1_init l D cA a9 H.size) ⟨va_cnB 0 hts (cv_good wc_yX1_init) rfl rfl rfl (hN _ weX0_30) (hts _ wn_X1) (by decide +kernel) ⟨Nat.le_of_ble_eq_true rfl, Nat.le_of_ble_eq_true rfl⟩, rfl, hts _ wi_yX1_init⟩ ⟨cv_Bt_blind, fun U hU hW => ⟨rfl, by rw [hU], by rw [hU]; exact hPc, va_K.moved hW.alike hK, hDc.weaken (fun _ _ _ _ => trivial), cv_NW_warm hW hN, va_AO.moved hW.alike hO3, va_AO.moved hW.alike hO1⟩⟩ rfl rfl hl.1 rfl (lv_room (Nat.le_of_ble_eq_true rfl)) (Dc 32 (61, .invokespecial 30, 3) rfl) ⟨Nat.le_of_ble_eq_true rfl, Nat.le_of_ble_eq_true rfl⟩) hS (fun z _ h => hFc z h) hFc (fun ws1 t H1 locs ht hvm hw hB hz1 hk1 hS => ?_)
  subst hw
  obtain ⟨hP1, hD1⟩ := hB
  rw [ht] at hP1
  obtain ⟨hP, hD⟩ := va_join (wr := [(q, .inr (0, [.ref a1, .ref a2, .ref a3, .ref a4, .ref a5, .int 0, .int 0])), (a1, .inl (cA 2, 6, .inr (.inr (.inr (.inr (va_up (va_up (va_up (fun _ => none) (nI 0).toNatClampNeg (some a6)) (nI 1).toNatClampNeg (some a7)) (nI 2).toNatClampNeg (some a8))))))), (a2, .inl (cA 0, 8, .inl (fun _ => 0))), (a3, .inl (cA 0, 3, .inl (fun _ => 0))), (a4, .inl (cA 0, 24, .inl (fun _ => 0))), (a5, .inl (cA 0, 48, .inl (fun _ => 0))), (a6, .inr (1, [.int 0, .int 0, .int 0, .int 0, .int 0])), (a7, .inr (1, [.int 0, .int 0, .int 0, .int 0, .int 0])), (a8, .inr (1, [.int 0, .int 0, .int 0, .int 0, .int 0]))]) (w1 := [(a9, .inr (1, [.int 0, .int 0, .int 0, .int 0, .int 0]))]) hP hD [9] [0, 1, 2, 3, 4, 5, 6, 7, 8] rfl rfl (by decide) (by decide) hk1 hFc hP1 hD1
  generalize H1 = H at hP hS ⊢
  have hP : va_P D cv_cl [(q, .inr (0, [.ref a1, .ref a2, .ref a3, .ref a4, .ref a5, .int 0, .int 0])), (a1, .inl (cA 2, 6, .inr (.inr (.inr (.inr (va_up (va_up (va_up (fun _ => none) (nI 0).toNatClampNeg (some a6)) (nI 1).toNatClampNeg (some a7)) (nI 2).toNatClampNeg (some a8))))))), (a2, .inl (cA 0, 8, .inl (fun _ => 0))), (a3, .inl (cA 0, 3, .inl (fun _ => 0))), (a4, .inl (cA 0, 24, .inl (fun _ => 0))), (a5, .inl (cA 0, 48, .inl (fun _ => 0))), (a6, .inr (1, [.int 0, .int 0, .int 0, .int 0, .int 0])), (a7, .inr (1, [.int 0, .int 0, .int 0, .int 0, .int 0])), (a8, .inr (1, [.int 0, .int 0, .int 0, .int 0, .int 0])), (a9, .inr (1, [.int 0, .int 0, .int 0, .int 0, .int 0]))] H := hP
  have hD : va_D A [(q, .inr (0, [.ref a1, .ref a2, .ref a3, .ref a4, .ref a5, .int 0, .int 0])), (a1, .inl (cA 2, 6, .inr (.inr (.inr (.inr (va_up (va_up (va_up (fun _ => none) (nI 0).toNatClampNeg (some a6)) (nI 1).toNatClampNeg (some a7)) (nI 2).toNatClampNeg (some a8))))))), (a2, .inl (cA 0, 8, .inl (fun _ => 0))), (a3, .inl (cA 0, 3, .inl (fun _ => 0))), (a4, .inl (cA 0, 24, .inl (fun _ => 0))), (a5, .inl (cA 0, 48, .inl (fun _ => 0))), (a6, .inr (1, [.int 0, .int 0, .int 0, .int 0, .int 0])), (a7, .inr (1, [.int 0, .int 0, .int 0, .int 0, .int 0])), (a8, .inr (1, [.int 0, .int 0, .int 0, .int 0, .int 0])), (a9, .inr (1, [.int 0, .int 0, .int 0, .int 0, .int 0]))] := hD
  refine W.widen (k := 9) (n := 109) (by decide) (by decide) ?_
  refine va_astq (r := (RX1, TX1, 5)) hx hb hK hP hD hS 1 2 9 1 rfl rfl rfl rfl (vp_in_nI (N := 6) (n := 3) (by decide) (by decide)) (Dc 33 (64, .aastore, 1) rfl) (fun H locs hP hD hS => ?_)
  have hP : va_P D cv_cl [(q, .inr (0, [.ref a1, .ref a2, .ref a3, .ref a4, .ref a5, .int 0, .int 0])), (a1, .inl (cA 2, 6, .inr (.inr (.inr (.inr (va_up (va_up (va_up (va_up (fun _ => none) (nI 0).toNatClampNeg (some a6)) (nI 1).toNatClampNeg (some a7)) (nI 2).toNatClampNeg (some a8)) (nI 3).toNatClampNeg (some a9))))))), (a2, .inl (cA 0, 8, .inl (fun _ => 0))), (a3, .inl (cA 0, 3, .inl (fun _ => 0))), (a4, .inl (cA 0, 24, .inl (fun _ => 0))), (a5, .inl (cA 0, 48, .inl (fun _ => 0))), (a6, .inr (1, [.int 0, .int 0, .int 0, .int 0, .int 0])), (a7, .inr (1, [.int 0, .int 0, .int 0, .int 0, .int 0])), (a8, .inr (1, [.int 0, .int 0, .int 0, .int 0, .int 0])), (a9, .inr (1, [.int 0, .int 0, .int 0, .int 0, .int 0]))] H := hP
  have hD : va_D A [(q, .inr (0, [.ref a1, .ref a2, .ref a3, .ref a4, .ref a5, .int 0, .int 0])), (a1, .inl (cA 2, 6, .inr (.inr (.inr (.inr (va_up (va_up (va_up (va_up (fun _ => none) (nI 0).toNatClampNeg (some a6)) (nI 1).toNatClampNeg (some a7)) (nI 2).toNatClampNeg (some a8)) (nI 3).toNatClampNeg (some a9))))))), (a2, .inl (cA 0, 8, .inl (fun _ => 0))), (a3, .inl (cA 0, 3, .inl (fun _ => 0))), (a4, .inl (cA 0, 24, .inl (fun _ => 0))), (a5, .inl (cA 0, 48, .inl (fun _ => 0))), (a6, .inr (1, [.int 0, .int 0, .int 0, .int 0, .int 0])), (a7, .inr (1, [.int 0, .int 0, .int 0, .int 0, .int 0])), (a8, .inr (1, [.int 0, .int 0, .int 0, .int 0, .int 0])), (a9, .inr (1, [.int 0, .int 0, .int 0, .int 0, .int 0]))] := hD
  refine lv_iinc (v := nI 4) (lv' := [(1, .int (nI 4)), (0, .ref q)]) hx hb (Dc 34 (65, .iinc 1 1, 3) rfl) hl (k := 0) rfl (by decide) (by decide) rfl (fun ls hl => ?_)
  refine lv_goto (tgt := 46) hx hb (Dc 35 (68, .goto (-22), 3) rfl) (by decide) ?_
  refine lv_iload_n hx hb (Dc 24 (46, .iload_n 1, 1) rfl) rfl (lv_at hl 0 rfl) ?_
  refine lv_bipush (v := nI 6) hx hb (Dc 25 (47, .bipush 6, 2) rfl) (by decide) ?_
  refine lv_icmp_ge (tgt := 71) hx hb (Dc 26 (49, .if_icmp .ge 22, 3) rfl) (by decide) (fun h => absurd h (by decide)) (fun _ => ?_)
  refine lv_aload_n hx hb (Dc 27 (52, .aload_n 0, 1) rfl) rfl (lv_at hl 1 rfl) ?_
  refine va_get (D := D) (ci := 0) (C := RX0) (T := TX0) (N := 7) (v := .ref a1) hx hb hts iw_X0 hown hK hP 0 rfl rfl 0 (by decide) (hts _ wfX0_11) (fun _ h => h) rfl (Dc 28 (53, .getfield 11, 3) rfl) ?_
  refine lv_iload_n hx hb (Dc 29 (56, .iload_n 1, 1) rfl) rfl (lv_at hl 0 rfl) ?_
  refine va_new (ci := 1) (fs := [.int 0, .int 0, .int 0, .int 0, .int 0]) (C := RX1) (T := TX1) (N := 5) hx hb hts iw_X1 tyX1 tyX1_ok hown (hts _ wkX0_9) (hts _ wb_X1) (hts _ wn_X1) hK hP hD hS hA rfl (fun j hj => by match j, hj with | 0, _ => rfl | 1, _ => rfl | 2, _ => rfl | 3, _ => rfl | 4, _ => rfl) (Nat.le_of_ble_eq_true rfl) (Nat.le_of_ble_eq_true rfl) (Dc 30 (57, .new 9, 3) rfl) (fun a10 H hP hD hS => ?_)
  have hP : va_P D cv_cl [(q, .inr (0, [.ref a1, .ref a2, .ref a3, .ref a4, .ref a5, .int 0, .int 0])), (a1, .inl (cA 2, 6, .inr (.inr (.inr (.inr (va_up (va_up (va_up (va_up (fun _ => none) (nI 0).toNatClampNeg (some a6)) (nI 1).toNatClampNeg (some a7)) (nI 2).toNatClampNeg (some a8)) (nI 3).toNatClampNeg (some a9))))))), (a2, .inl (cA 0, 8, .inl (fun _ => 0))), (a3, .inl (cA 0, 3, .inl (fun _ => 0))), (a4, .inl (cA 0, 24, .inl (fun _ => 0))), (a5, .inl (cA 0, 48, .inl (fun _ => 0))), (a6, .inr (1, [.int 0, .int 0, .int 0, .int 0, .int 0])), (a7, .inr (1, [.int 0, .int 0, .int 0, .int 0, .int 0])), (a8, .inr (1, [.int 0, .int 0, .int 0, .int 0, .int 0])), (a9, .inr (1, [.int 0, .int 0, .int 0, .int 0, .int 0])), (a10, .inr (1, [.int 0, .int 0, .int 0, .int 0, .int 0]))] H := hP
  have hD : va_D A [(q, .inr (0, [.ref a1, .ref a2, .ref a3, .ref a4, .ref a5, .int 0, .int 0])), (a1, .inl (cA 2, 6, .inr (.inr (.inr (.inr (va_up (va_up (va_up (va_up (fun _ => none) (nI 0).toNatClampNeg (some a6)) (nI 1).toNatClampNeg (some a7)) (nI 2).toNatClampNeg (some a8)) (nI 3).toNatClampNeg (some a9))))))), (a2, .inl (cA 0, 8, .inl (fun _ => 0))), (a3, .inl (cA 0, 3, .inl (fun _ => 0))), (a4, .inl (cA 0, 24, .inl (fun _ => 0))), (a5, .inl (cA 0, 48, .inl (fun _ => 0))), (a6, .inr (1, [.int 0, .int 0, .int 0, .int 0, .int 0])), (a7, .inr (1, [.int 0, .int 0, .int 0, .int 0, .int 0])), (a8, .inr (1, [.int 0, .int 0, .int 0, .int 0, .int 0])), (a9, .inr (1, [.int 0, .int 0, .int 0, .int 0, .int 0])), (a10, .inr (1, [.int 0, .int 0, .int 0, .int 0, .int 0]))] := hD
  refine W.widen (k := 10) (n := 114) (by decide) (by decide) ?_
  refine lv_dup hx hb (Dc 31 (60, .dup, 1) rfl) rfl ?_
  have hPc := hP.sub (ws' := [(a10, .inr (1, [.int 0, .int 0, .int 0, .int 0, .int 0]))]) [10] rfl
  have hDc := hD.sub (ws' := [(a10, .inr (1, [.int 0, .int 0, .int 0, .int 0, .int 0]))]) [10] (by decide) rfl
  have hFc := va_free (wc := [(a10, .inr (1, [.int 0, .int 0, .int 0, .int 0, .int 0]))]) hD hS hA [10] rfl
  refine va_callv (va_runIN (As := []) (rest := [.ref a10, .int (nI 4), .ref a1]) (host := RX6) ⟨hx, hb, hml, hown, hts⟩ (kX1_init l D cA a10 H.size) ⟨va_cnB 0 hts (cv_good wc_yX1_init) rfl rfl rfl (hN _ weX0_30) (hts _ wn_X1) (by decide +kernel) ⟨Nat.le_of_ble_eq_true rfl, Nat.le_of_ble_eq_true rfl⟩, rfl, hts _ wi_yX1_init⟩ ⟨cv_Bt_blind, fun U hU hW => ⟨rfl, by rw [hU], by rw [hU]; exact hPc, va_K.moved hW.alike hK, hDc.weaken (fun _ _ _ _ => trivial), cv_NW_warm hW hN, va_AO.moved hW.alike hO3, va_AO.moved hW.alike hO1⟩⟩ rfl rfl hl.1 rfl (lv_room (Nat.le_of_ble_eq_true rfl)) (Dc 32 (61, .invokespecial 30, 3) rfl) ⟨Nat.le_of_ble_eq_true rfl, Nat.le_of_ble_eq_true rfl⟩) hS (fun z _ h => hFc z h) hFc (fun ws1 t H1 locs ht hvm hw hB hz1 hk1 hS => ?_)
  subst hw
  obtain ⟨hP1, hD1⟩ := hB
  rw [ht] at hP1
  obtain ⟨hP, hD⟩ := va_join (wr := [(q, .inr (0, [.ref a1, .ref a2, .ref a3, .ref a4, .ref a5, .int 0, .int 0])), (a1, .inl (cA 2, 6, .inr (.inr (.inr (.inr (va_up (va_up (va_up (va_up (fun _ => none) (nI 0).toNatClampNeg (some a6)) (nI 1).toNatClampNeg (some a7)) (nI 2).toNatClampNeg (some a8)) (nI 3).toNatClampNeg (some a9))))))), (a2, .inl (cA 0, 8, .inl (fun _ => 0))), (a3, .inl (cA 0, 3, .inl (fun _ => 0))), (a4, .inl (cA 0, 24, .inl (fun _ => 0))), (a5, .inl (cA 0, 48, .inl (fun _ => 0))), (a6, .inr (1, [.int 0, .int 0, .int 0, .int 0, .int 0])), (a7, .inr (1, [.int 0, .int 0, .int 0, .int 0, .int 0])), (a8, .inr (1, [.int 0, .int 0, .int 0, .int 0, .int 0])), (a9, .inr (1, [.int 0, .int 0, .int 0, .int 0, .int 0]))]) (w1 := [(a10, .inr (1, [.int 0, .int 0, .int 0, .int 0, .int 0]))]) hP hD [10] [0, 1, 2, 3, 4, 5, 6, 7, 8, 9] rfl rfl (by decide) (by decide) hk1 hFc hP1 hD1
  generalize H1 = H at hP hS ⊢
  have hP : va_P D cv_cl [(q, .inr (0, [.ref a1, .ref a2, .ref a3, .ref a4, .ref a5, .int 0, .int 0])), (a1, .inl (cA 2, 6, .inr (.inr (.inr (.inr (va_up (va_up (va_up (va_up (fun _ => none) (nI 0).toNatClampNeg (some a6)) (nI 1).toNatClampNeg (some a7)) (nI 2).toNatClampNeg (some a8)) (nI 3).toNatClampNeg (some a9))))))), (a2, .inl (cA 0, 8, .inl (fun _ => 0))), (a3, .inl (cA 0, 3, .inl (fun _ => 0))), (a4, .inl (cA 0, 24, .inl (fun _ => 0))), (a5, .inl (cA 0, 48, .inl (fun _ => 0))), (a6, .inr (1, [.int 0, .int 0, .int 0, .int 0, .int 0])), (a7, .inr (1, [.int 0, .int 0, .int 0, .int 0, .int 0])), (a8, .inr (1, [.int 0, .int 0, .int 0, .int 0, .int 0])), (a9, .inr (1, [.int 0, .int 0, .int 0, .int 0, .int 0])), (a10, .inr (1, [.int 0, .int 0, .int 0, .int 0, .int 0]))] H := hP
  have hD : va_D A [(q, .inr (0, [.ref a1, .ref a2, .ref a3, .ref a4, .ref a5, .int 0, .int 0])), (a1, .inl (cA 2, 6, .inr (.inr (.inr (.inr (va_up (va_up (va_up (va_up (fun _ => none) (nI 0).toNatClampNeg (some a6)) (nI 1).toNatClampNeg (some a7)) (nI 2).toNatClampNeg (some a8)) (nI 3).toNatClampNeg (some a9))))))), (a2, .inl (cA 0, 8, .inl (fun _ => 0))), (a3, .inl (cA 0, 3, .inl (fun _ => 0))), (a4, .inl (cA 0, 24, .inl (fun _ => 0))), (a5, .inl (cA 0, 48, .inl (fun _ => 0))), (a6, .inr (1, [.int 0, .int 0, .int 0, .int 0, .int 0])), (a7, .inr (1, [.int 0, .int 0, .int 0, .int 0, .int 0])), (a8, .inr (1, [.int 0, .int 0, .int 0, .int 0, .int 0])), (a9, .inr (1, [.int 0, .int 0, .int 0, .int 0, .int 0])), (a10, .inr (1, [.int 0, .int 0, .int 0, .int 0, .int 0]))] := hD
  refine W.widen (k := 10) (n := 114) (by decide) (by decide) ?_
  refine va_astq (r := (RX1, TX1, 5)) hx hb hK hP hD hS 1 2 10 1 rfl rfl rfl rfl (vp_in_nI (N := 6) (n := 4) (by decide) (by decide)) (Dc 33 (64, .aastore, 1) rfl) (fun H locs hP hD hS => ?_)
  have hP : va_P D cv_cl [(q, .inr (0, [.ref a1, .ref a2, .ref a3, .ref a4, .ref a5, .int 0, .int 0])), (a1, .inl (cA 2, 6, .inr (.inr (.inr (.inr (va_up (va_up (va_up (va_up (va_up (fun _ => none) (nI 0).toNatClampNeg (some a6)) (nI 1).toNatClampNeg (some a7)) (nI 2).toNatClampNeg (some a8)) (nI 3).toNatClampNeg (some a9)) (nI 4).toNatClampNeg (some a10))))))), (a2, .inl (cA 0, 8, .inl (fun _ => 0))), (a3, .inl (cA 0, 3, .inl (fun _ => 0))), (a4, .inl (cA 0, 24, .inl (fun _ => 0))), (a5, .inl (cA 0, 48, .inl (fun _ => 0))), (a6, .inr (1, [.int 0, .int 0, .int 0, .int 0, .int 0])), (a7, .inr (1, [.int 0, .int 0, .int 0, .int 0, .int 0])), (a8, .inr (1, [.int 0, .int 0, .int 0, .int 0, .int 0])), (a9, .inr (1, [.int 0, .int 0, .int 0, .int 0, .int 0])), (a10, .inr (1, [.int 0, .int 0, .int 0, .int 0, .int 0]))] H := hP
  have hD : va_D A [(q, .inr (0, [.ref a1, .ref a2, .ref a3, .ref a4, .ref a5, .int 0, .int 0])), (a1, .inl (cA 2, 6, .inr (.inr (.inr (.inr (va_up (va_up (va_up (va_up (va_up (fun _ => none) (nI 0).toNatClampNeg (some a6)) (nI 1).toNatClampNeg (some a7)) (nI 2).toNatClampNeg (some a8)) (nI 3).toNatClampNeg (some a9)) (nI 4).toNatClampNeg (some a10))))))), (a2, .inl (cA 0, 8, .inl (fun _ => 0))), (a3, .inl (cA 0, 3, .inl (fun _ => 0))), (a4, .inl (cA 0, 24, .inl (fun _ => 0))), (a5, .inl (cA 0, 48, .inl (fun _ => 0))), (a6, .inr (1, [.int 0, .int 0, .int 0, .int 0, .int 0])), (a7, .inr (1, [.int 0, .int 0, .int 0, .int 0, .int 0])), (a8, .inr (1, [.int 0, .int 0, .int 0, .int 0, .int 0])), (a9, .inr (1, [.int 0, .int 0, .int 0, .int 0, .int 0])), (a10, .inr (1, [.int 0, .int 0, .int 0, .int 0, .int 0]))] := hD
  refine lv_iinc (v := nI 5) (lv' := [(1, .int (nI 5)), (0, .ref q)]) hx hb (Dc 34 (65, .iinc 1 1, 3) rfl) hl (k := 0) rfl (by decide) (by decide) rfl (fun ls hl => ?_)
  refine lv_goto (tgt := 46) hx hb (Dc 35 (68, .goto (-22), 3) rfl) (by decide) ?_
  refine lv_iload_n hx hb (Dc 24 (46, .iload_n 1, 1) rfl) rfl (lv_at hl 0 rfl) ?_
  refine lv_bipush (v := nI 6) hx hb (Dc 25 (47, .bipush 6, 2) rfl) (by decide) ?_
  refine lv_icmp_ge (tgt := 71) hx hb (Dc 26 (49, .if_icmp .ge 22, 3) rfl) (by decide) (fun h => absurd h (by decide)) (fun _ => ?_)
  refine lv_aload_n hx hb (Dc 27 (52, .aload_n 0, 1) rfl) rfl (lv_at hl 1 rfl) ?_
  refine va_get (D := D) (ci := 0) (C := RX0) (T := TX0) (N := 7) (v := .ref a1) hx hb hts iw_X0 hown hK hP 0 rfl rfl 0 (by decide) (hts _ wfX0_11) (fun _ h => h) rfl (Dc 28 (53, .getfield 11, 3) rfl) ?_
  refine lv_iload_n hx hb (Dc 29 (56, .iload_n 1, 1) rfl) rfl (lv_at hl 0 rfl) ?_
  refine va_new (ci := 1) (fs := [.int 0, .int 0, .int 0, .int 0, .int 0]) (C := RX1) (T := TX1) (N := 5) hx hb hts iw_X1 tyX1 tyX1_ok hown (hts _ wkX0_9) (hts _ wb_X1) (hts _ wn_X1) hK hP hD hS hA rfl (fun j hj => by match j, hj with | 0, _ => rfl | 1, _ => rfl | 2, _ => rfl | 3, _ => rfl | 4, _ => rfl) (Nat.le_of_ble_eq_true rfl) (Nat.le_of_ble_eq_true rfl) (Dc 30 (57, .new 9, 3) rfl) (fun a11 H hP hD hS => ?_)
  have hP : va_P D cv_cl [(q, .inr (0, [.ref a1, .ref a2, .ref a3, .ref a4, .ref a5, .int 0, .int 0])), (a1, .inl (cA 2, 6, .inr (.inr (.inr (.inr (va_up (va_up (va_up (va_up (va_up (fun _ => none) (nI 0).toNatClampNeg (some a6)) (nI 1).toNatClampNeg (some a7)) (nI 2).toNatClampNeg (some a8)) (nI 3).toNatClampNeg (some a9)) (nI 4).toNatClampNeg (some a10))))))), (a2, .inl (cA 0, 8, .inl (fun _ => 0))), (a3, .inl (cA 0, 3, .inl (fun _ => 0))), (a4, .inl (cA 0, 24, .inl (fun _ => 0))), (a5, .inl (cA 0, 48, .inl (fun _ => 0))), (a6, .inr (1, [.int 0, .int 0, .int 0, .int 0, .int 0])), (a7, .inr (1, [.int 0, .int 0, .int 0, .int 0, .int 0])), (a8, .inr (1, [.int 0, .int 0, .int 0, .int 0, .int 0])), (a9, .inr (1, [.int 0, .int 0, .int 0, .int 0, .int 0])), (a10, .inr (1, [.int 0, .int 0, .int 0, .int 0, .int 0])), (a11, .inr (1, [.int 0, .int 0, .int 0, .int 0, .int 0]))] H := hP
  have hD : va_D A [(q, .inr (0, [.ref a1, .ref a2, .ref a3, .ref a4, .ref a5, .int 0, .int 0])), (a1, .inl (cA 2, 6, .inr (.inr (.inr (.inr (va_up (va_up (va_up (va_up (va_up (fun _ => none) (nI 0).toNatClampNeg (some a6)) (nI 1).toNatClampNeg (some a7)) (nI 2).toNatClampNeg (some a8)) (nI 3).toNatClampNeg (some a9)) (nI 4).toNatClampNeg (some a10))))))), (a2, .inl (cA 0, 8, .inl (fun _ => 0))), (a3, .inl (cA 0, 3, .inl (fun _ => 0))), (a4, .inl (cA 0, 24, .inl (fun _ => 0))), (a5, .inl (cA 0, 48, .inl (fun _ => 0))), (a6, .inr (1, [.int 0, .int 0, .int 0, .int 0, .int 0])), (a7, .inr (1, [.int 0, .int 0, .int 0, .int 0, .int 0])), (a8, .inr (1, [.int 0, .int 0, .int 0, .int 0, .int 0])), (a9, .inr (1, [.int 0, .int 0, .int 0, .int 0, .int 0])), (a10, .inr (1, [.int 0, .int 0, .int 0, .int 0, .int 0])), (a11, .inr (1, [.int 0, .int 0, .int 0, .int 0, .int 0]))] := hD
  refine W.widen (k := 11) (n := 119) (by decide) (by decide) ?_
  refine lv_dup hx hb (Dc 31 (60, .dup, 1) rfl) rfl ?_
  have hPc := hP.sub (ws' := [(a11, .inr (1, [.int 0, .int 0, .int 0, .int 0, .int 0]))]) [11] rfl
  have hDc := hD.sub (ws' := [(a11, .inr (1, [.int 0, .int 0, .int 0, .int 0, .int 0]))]) [11] (by decide) rfl
  have hFc := va_free (wc := [(a11, .inr (1, [.int 0, .int 0, .int 0, .int 0, .int 0]))]) hD hS hA [11] rfl
  refine va_callv (va_runIN (As := []) (rest := [.ref a11, .int (nI 5), .ref a1]) (host := RX6) ⟨hx, hb, hml, hown, hts⟩ (kX1_init l D cA a11 H.size) ⟨va_cnB 0 hts (cv_good wc_yX1_init) rfl rfl rfl (hN _ weX0_30) (hts _ wn_X1) (by decide +kernel) ⟨Nat.le_of_ble_eq_true rfl, Nat.le_of_ble_eq_true rfl⟩, rfl, hts _ wi_yX1_init⟩ ⟨cv_Bt_blind, fun U hU hW => ⟨rfl, by rw [hU], by rw [hU]; exact hPc, va_K.moved hW.alike hK, hDc.weaken (fun _ _ _ _ => trivial), cv_NW_warm hW hN, va_AO.moved hW.alike hO3, va_AO.moved hW.alike hO1⟩⟩ rfl rfl hl.1 rfl (lv_room (Nat.le_of_ble_eq_true rfl)) (Dc 32 (61, .invokespecial 30, 3) rfl) ⟨Nat.le_of_ble_eq_true rfl, Nat.le_of_ble_eq_true rfl⟩) hS (fun z _ h => hFc z h) hFc (fun ws1 t H1 locs ht hvm hw hB hz1 hk1 hS => ?_)
  subst hw
  obtain ⟨hP1, hD1⟩ := hB
  rw [ht] at hP1
  obtain ⟨hP, hD⟩ := va_join (wr := [(q, .inr (0, [.ref a1, .ref a2, .ref a3, .ref a4, .ref a5, .int 0, .int 0])), (a1, .inl (cA 2, 6, .inr (.inr (.inr (.inr (va_up (va_up (va_up (va_up (va_up (fun _ => none) (nI 0).toNatClampNeg (some a6)) (nI 1).toNatClampNeg (some a7)) (nI 2).toNatClampNeg (some a8)) (nI 3).toNatClampNeg (some a9)) (nI 4).toNatClampNeg (some a10))))))), (a2, .inl (cA 0, 8, .inl (fun _ => 0))), (a3, .inl (cA 0, 3, .inl (fun _ => 0))), (a4, .inl (cA 0, 24, .inl (fun _ => 0))), (a5, .inl (cA 0, 48, .inl (fun _ => 0))), (a6, .inr (1, [.int 0, .int 0, .int 0, .int 0, .int 0])), (a7, .inr (1, [.int 0, .int 0, .int 0, .int 0, .int 0])), (a8, .inr (1, [.int 0, .int 0, .int 0, .int 0, .int 0])), (a9, .inr (1, [.int 0, .int 0, .int 0, .int 0, .int 0])), (a10, .inr (1, [.int 0, .int 0, .int 0, .int 0, .int 0]))]) (w1 := [(a11, .inr (1, [.int 0, .int 0, .int 0, .int 0, .int 0]))]) hP hD [11] [0, 1, 2, 3, 4, 5, 6, 7, 8, 9, 10] rfl rfl (by decide) (by decide) hk1 hFc hP1 hD1
  generalize H1 = H at hP hS ⊢
  have hP : va_P D cv_cl [(q, .inr (0, [.ref a1, .ref a2, .ref a3, .ref a4, .ref a5, .int 0, .int 0])), (a1, .inl (cA 2, 6, .inr (.inr (.inr (.inr (va_up (va_up (va_up (va_up (va_up (fun _ => none) (nI 0).toNatClampNeg (some a6)) (nI 1).toNatClampNeg (some a7)) (nI 2).toNatClampNeg (some a8)) (nI 3).toNatClampNeg (some a9)) (nI 4).toNatClampNeg (some a10))))))), (a2, .inl (cA 0, 8, .inl (fun _ => 0))), (a3, .inl (cA 0, 3, .inl (fun _ => 0))), (a4, .inl (cA 0, 24, .inl (fun _ => 0))), (a5, .inl (cA 0, 48, .inl (fun _ => 0))), (a6, .inr (1, [.int 0, .int 0, .int 0, .int 0, .int 0])), (a7, .inr (1, [.int 0, .int 0, .int 0, .int 0, .int 0])), (a8, .inr (1, [.int 0, .int 0, .int 0, .int 0, .int 0])), (a9, .inr (1, [.int 0, .int 0, .int 0, .int 0, .int 0])), (a10, .inr (1, [.int 0, .int 0, .int 0, .int 0, .int 0])), (a11, .inr (1, [.int 0, .int 0, .int 0, .int 0, .int 0]))] H := hP
  have hD : va_D A [(q, .inr (0, [.ref a1, .ref a2, .ref a3, .ref a4, .ref a5, .int 0, .int 0])), (a1, .inl (cA 2, 6, .inr (.inr (.inr (.inr (va_up (va_up (va_up (va_up (va_up (fun _ => none) (nI 0).toNatClampNeg (some a6)) (nI 1).toNatClampNeg (some a7)) (nI 2).toNatClampNeg (some a8)) (nI 3).toNatClampNeg (some a9)) (nI 4).toNatClampNeg (some a10))))))), (a2, .inl (cA 0, 8, .inl (fun _ => 0))), (a3, .inl (cA 0, 3, .inl (fun _ => 0))), (a4, .inl (cA 0, 24, .inl (fun _ => 0))), (a5, .inl (cA 0, 48, .inl (fun _ => 0))), (a6, .inr (1, [.int 0, .int 0, .int 0, .int 0, .int 0])), (a7, .inr (1, [.int 0, .int 0, .int 0, .int 0, .int 0])), (a8, .inr (1, [.int 0, .int 0, .int 0, .int 0, .int 0])), (a9, .inr (1, [.int 0, .int 0, .int 0, .int 0, .int 0])), (a10, .inr (1, [.int 0, .int 0, .int 0, .int 0, .int 0])), (a11, .inr (1, [.int 0, .int 0, .int 0, .int 0, .int 0]))] := hD
  refine W.widen (k := 11) (n := 119) (by decide) (by decide) ?_
  refine va_astq (r := (RX1, TX1, 5)) hx hb hK hP hD hS 1 2 11 1 rfl rfl rfl rfl (vp_in_nI (N := 6) (n := 5) (by decide) (by decide)) (Dc 33 (64, .aastore, 1) rfl) (fun H locs hP hD hS => ?_)
  have hP : va_P D cv_cl [(q, .inr (0, [.ref a1, .ref a2, .ref a3, .ref a4, .ref a5, .int 0, .int 0])), (a1, .inl (cA 2, 6, .inr (.inr (.inr (.inr (va_up (va_up (va_up (va_up (va_up (va_up (fun _ => none) (nI 0).toNatClampNeg (some a6)) (nI 1).toNatClampNeg (some a7)) (nI 2).toNatClampNeg (some a8)) (nI 3).toNatClampNeg (some a9)) (nI 4).toNatClampNeg (some a10)) (nI 5).toNatClampNeg (some a11))))))), (a2, .inl (cA 0, 8, .inl (fun _ => 0))), (a3, .inl (cA 0, 3, .inl (fun _ => 0))), (a4, .inl (cA 0, 24, .inl (fun _ => 0))), (a5, .inl (cA 0, 48, .inl (fun _ => 0))), (a6, .inr (1, [.int 0, .int 0, .int 0, .int 0, .int 0])), (a7, .inr (1, [.int 0, .int 0, .int 0, .int 0, .int 0])), (a8, .inr (1, [.int 0, .int 0, .int 0, .int 0, .int 0])), (a9, .inr (1, [.int 0, .int 0, .int 0, .int 0, .int 0])), (a10, .inr (1, [.int 0, .int 0, .int 0, .int 0, .int 0])), (a11, .inr (1, [.int 0, .int 0, .int 0, .int 0, .int 0]))] H := hP
  have hD : va_D A [(q, .inr (0, [.ref a1, .ref a2, .ref a3, .ref a4, .ref a5, .int 0, .int 0])), (a1, .inl (cA 2, 6, .inr (.inr (.inr (.inr (va_up (va_up (va_up (va_up (va_up (va_up (fun _ => none) (nI 0).toNatClampNeg (some a6)) (nI 1).toNatClampNeg (some a7)) (nI 2).toNatClampNeg (some a8)) (nI 3).toNatClampNeg (some a9)) (nI 4).toNatClampNeg (some a10)) (nI 5).toNatClampNeg (some a11))))))), (a2, .inl (cA 0, 8, .inl (fun _ => 0))), (a3, .inl (cA 0, 3, .inl (fun _ => 0))), (a4, .inl (cA 0, 24, .inl (fun _ => 0))), (a5, .inl (cA 0, 48, .inl (fun _ => 0))), (a6, .inr (1, [.int 0, .int 0, .int 0, .int 0, .int 0])), (a7, .inr (1, [.int 0, .int 0, .int 0, .int 0, .int 0])), (a8, .inr (1, [.int 0, .int 0, .int 0, .int 0, .int 0])), (a9, .inr (1, [.int 0, .int 0, .int 0, .int 0, .int 0])), (a10, .inr (1, [.int 0, .int 0, .int 0, .int 0, .int 0])), (a11, .inr (1, [.int 0, .int 0, .int 0, .int 0, .int 0]))] := hD
  refine lv_iinc (v := nI 6) (lv' := [(1, .int (nI 6)), (0, .ref q)]) hx hb (Dc 34 (65, .iinc 1 1, 3) rfl) hl (k := 0) rfl (by decide) (by decide) rfl (fun ls hl => ?_)
  refine lv_goto (tgt := 46) hx hb (Dc 35 (68, .goto (-22), 3) rfl) (by decide) ?_
  refine lv_iload_n hx hb (Dc 24 (46, .iload_n 1, 1) rfl) rfl (lv_at hl 0 rfl) ?_
  refine lv_bipush (v := nI 6) hx hb (Dc 25 (47, .bipush 6, 2) rfl) (by decide) ?_
  refine lv_icmp_ge (tgt := 71) hx hb (Dc 26 (49, .if_icmp .ge 22, 3) rfl) (by decide) (fun _ => ?_) (fun h => absurd (by decide) h)
  have hup2 : va_up (va_up (va_up (va_up (va_up (va_up (fun _ => none) (nI 0).toNatClampNeg (some a6)) (nI 1).toNatClampNeg (some a7)) (nI 2).toNatClampNeg (some a8)) (nI 3).toNatClampNeg (some a9)) (nI 4).toNatClampNeg (some a10)) (nI 5).toNatClampNeg (some a11) = fun i => ([a6, a7, a8, a9, a10, a11] : List Nat)[i]? := cv_ups (fun i hi => by match i, hi with | 0, _ => rfl | 1, _ => rfl | 2, _ => rfl | 3, _ => rfl | 4, _ => rfl | 5, _ => rfl) (fun i hi => by have hi : 6 ≤ i := hi; simp only [va_up]; rw [if_neg (by rw [nI_clamp (by decide)]; omega)]; rw [if_neg (by rw [nI_clamp (by decide)]; omega)]; rw [if_neg (by rw [nI_clamp (by decide)]; omega)]; rw [if_neg (by rw [nI_clamp (by decide)]; omega)]; rw [if_neg (by rw [nI_clamp (by decide)]; omega)]; rw [if_neg (by rw [nI_clamp (by decide)]; omega)])
  rw [hup2] at hP hD
  have hP : va_P D cv_cl [(q, .inr (0, [.ref a1, .ref a2, .ref a3, .ref a4, .ref a5, .int 0, .int 0])), (a1, .inl (cA 2, 6, .inr (.inr (.inr (.inr (fun i => ([a6, a7, a8, a9, a10, a11] : List Nat)[i]?)))))), (a2, .inl (cA 0, 8, .inl (fun _ => 0))), (a3, .inl (cA 0, 3, .inl (fun _ => 0))), (a4, .inl (cA 0, 24, .inl (fun _ => 0))), (a5, .inl (cA 0, 48, .inl (fun _ => 0))), (a6, .inr (1, [.int 0, .int 0, .int 0, .int 0, .int 0])), (a7, .inr (1, [.int 0, .int 0, .int 0, .int 0, .int 0])), (a8, .inr (1, [.int 0, .int 0, .int 0, .int 0, .int 0])), (a9, .inr (1, [.int 0, .int 0, .int 0, .int 0, .int 0])), (a10, .inr (1, [.int 0, .int 0, .int 0, .int 0, .int 0])), (a11, .inr (1, [.int 0, .int 0, .int 0, .int 0, .int 0]))] H := hP
  have hD : va_D A [(q, .inr (0, [.ref a1, .ref a2, .ref a3, .ref a4, .ref a5, .int 0, .int 0])), (a1, .inl (cA 2, 6, .inr (.inr (.inr (.inr (fun i => ([a6, a7, a8, a9, a10, a11] : List Nat)[i]?)))))), (a2, .inl (cA 0, 8, .inl (fun _ => 0))), (a3, .inl (cA 0, 3, .inl (fun _ => 0))), (a4, .inl (cA 0, 24, .inl (fun _ => 0))), (a5, .inl (cA 0, 48, .inl (fun _ => 0))), (a6, .inr (1, [.int 0, .int 0, .int 0, .int 0, .int 0])), (a7, .inr (1, [.int 0, .int 0, .int 0, .int 0, .int 0])), (a8, .inr (1, [.int 0, .int 0, .int 0, .int 0, .int 0])), (a9, .inr (1, [.int 0, .int 0, .int 0, .int 0, .int 0])), (a10, .inr (1, [.int 0, .int 0, .int 0, .int 0, .int 0])), (a11, .inr (1, [.int 0, .int 0, .int 0, .int 0, .int 0]))] := hD
  refine W.widen (k := 11) (n := 119) (by decide) (by decide) ?_
  exact W.vret hx hb hr (fun t ht hW => ⟨⟨_, rfl, ⟨_, _, _, _, _, _, _, _, _, _, _, rfl⟩, by rw [ht]; exact hP, hD⟩, hS.F ht⟩) hS.2.2 (Dc 36 (71, .return_, 1) rfl) (hlocks := hlocks)
