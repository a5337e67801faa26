theorem cv_U_blind {D : va_G} {cA : Nat → ClassId} {a : Nat → Nat} {n : Nat} {sh : Nat → cv_Sh} {σ : cv_St} {sz : Nat} {av : List Value} : FrameBlind (va_Pc av (cv_U D cA a n sh σ sz)) := by
  intro b U g mk h
  obtain ⟨q0, q1, qP, qK, qD, qN⟩ := h
  exact ⟨q0, q1, qP, va_K.moved (u := U) (U := U.calling g mk b) (Vm.Alike.refl U.vm) qK, qD, fun w hw => va_Nw.same (u := U) (U := U.calling g mk b) (cv_NW_tab w hw) rfl (qN w hw)⟩
theorem cv_good {y : MethodName} {bytes : ByteArray} {maxL : Nat} {ret : Option FieldType} (h : Cond.code y bytes maxL ret ∈ cv_BIG) : GoodIn cv_BIG (Cond.code y bytes maxL ret :: cv_BIG) := by
  intro w hw
  rcases List.mem_cons.mp hw with rfl | hw
  · exact ⟨h, cv_BIG_good _ h⟩
  · exact ⟨hw, cv_BIG_good _ hw⟩
section CVC
variable {X : cv_X} {own : String} {cc : ByteArray} {nL d : Nat} {σ : cv_St} {pc : Nat} {lv : List (Nat × Value)} {n : Nat} {sh : Nat → cv_Sh} {cells slots : Nat} {a : Nat → Nat}
/-- behind a call over the same world -/
theorem cv_back {p : Program} {l : Launch} {e : Env} {R : Room} {s : State} {m : MethodId} {args : Array Value} {below : List Frame} {meth : Method} {c : Code} {Q : State → Prop} {D : va_G} {A : Nat → Prop} {cA : Nat → ClassId} {H : Heap} {locs : List Loc} {ls : Array Slot} {st0 rest : List Value} {mc ms : Nat} {b : Array Value} {Qa : Option Value → cv_St → Prop}
    (hr : va_Run p l e R s m args below meth c H locs cells slots mc ms (F0 m pc ls st0) (rest.map (cv_v a)) (cv_Qc D cA a n sh Qa (va_A (cv_wl n sh cA a σ) H.size) b) (va_A (cv_wl n sh cA a σ) H.size)) (hD : va_D A (cv_wl n sh cA a (fun _ _ => 0))) (hA : ∀ q, s.heap.size ≤ q → A q) (hS : va_S A s.heap H locs)
    (kk : ∀ (v : Option Value) (u : cv_St), Qa v u → ∀ (H1 : Heap) (locs1 : List Loc), va_P D cv_cl (cv_wl n sh cA a u) H1 → va_S A s.heap H1 locs1 → W p l e R s m args below meth c H1 locs1 (cells + mc) (slots + ms) Q (F0 m (pc + 3) ls ((v.toList ++ rest).map (cv_v a)))) : W p l e R s m args below meth c H locs cells slots Q (F0 m pc ls st0) := by
  have hF : ∀ q, va_A (cv_wl n sh cA a σ) H.size q → A q := by
    intro q h
    rcases h with ⟨k, e, h⟩ | h
    · have h2 := (cv_D_any σ hD).2 k _ h
      exact h2
    · exact hA q (Nat.le_trans hS.1 h)
  intro T hT Xs
  obtain ⟨v, st₀, t, T', L, h0, X', hL, e1, e2, ⟨⟨v', u, hv, hp, hb⟩, hz, hk⟩, st⟩ := hr T hT Xs
  have hv' : v = v'.map (cv_v a) := by injection hv
  subst hv'
  rw [h0] at hz hk
  obtain ⟨t2, a1, b1⟩ := kk v' u hp T'.heap (locs ++ L) (by rw [e1]; exact hb)
    ⟨Nat.le_trans hS.1 (by rw [e1]; exact hz), fun q h1 h2 => by rw [e1, hk q (Nat.lt_of_lt_of_le h1 hS.1) (fun z => h2 (hF q z))]; exact hS.2.1 q h1 h2, fun q hq => by
      rcases List.mem_append.mp hq with h | h
      · exact hS.2.2 q h
      · exact hF _ (hL q h)⟩ T' rfl X'
  refine ⟨t2, st t2 ?_, b1⟩
  have e3 : (v'.map (cv_v a)).toList ++ rest.map (cv_v a) = (v'.toList ++ rest).map (cv_v a) := by cases v' <;> rfl
  rw [e3]
  exact a1
theorem cv_sum {rest : List Value} (h : (rest.map fun v => v.category).sum ≤ 8) : ((rest.map (cv_v a)).map fun v => v.category).sum ≤ 8 := by
  have e : (rest.map (cv_v a)).map (fun v => v.category) = rest.map fun v => v.category := by
    rw [List.map_map]
    apply List.map_congr_left
    intro v _
    exact cv_v_cat a v
  rw [e]; exact h
variable {y : MethodName} {bytes : ByteArray} {maxL idx d' np : Nat} {ret : Option FieldType} {As rest : List Value} {Qa : Option Value → cv_St → Prop}
/-- invokevirtual on an object of the world -/
theorem cv_callV {k0 ci : Nat} {fl : List (Option Nat)} {C0 : String} {T : u_T} {N : Nat} (C : cv_Cx X (n, sh, cells, slots, a) own cc nL d) {pc' : Nat} (hp : pc + 3 = pc') (hM : cv_Ct y bytes maxL ret d' 0 0 n sh (.ref k0 :: As) σ Qa) (hk : k0 < n) (hs : sh k0 = .inl (ci, fl)) (hc : cv_cl[ci]? = some (C0, T, N)) (hy : y.cls = C0) (hyd : y.cls ≠ "java/lang/invoke/MethodHandle" ∧ y.cls ≠ "java/lang/invoke/VarHandle" ∧ (parseMethodDescriptor y.desc).map (fun d => d.parameters.length) = some np) (hn : As.length = np)
    (hw1 : Cond.methodLink own idx y ∈ cv_BIG) (hw2 : Cond.instanceMethod y ∈ cv_BIG) (hw3 : Cond.selects C0 y y ∈ cv_BIG) (hw4 : Cond.initialized C0 ∈ cv_BIG) (hw5 : Cond.code y bytes maxL ret ∈ cv_BIG) (hdp : d' + 1 ≤ d) (hmx : maxL ≤ 15) (hd : decode cc pc = .ok (.invokevirtual idx, 3)) (hrm : (rest.map fun v => v.category).sum ≤ 8)
    {st : List Value} (hst : st = As.reverse ++ .ref k0 :: rest) (k : ∀ (v : Option Value) (u : cv_St), Qa v u → cv_At X (n, sh, cells, slots, a) nL u pc' lv (v.toList ++ rest)) : cv_At X (n, sh, cells, slots, a) nL σ pc lv st := by
  subst hp
  obtain ⟨p, l, e, R, s, m, args, below, meth, c, Q, D, A, cA⟩ := X
  obtain ⟨hx, hb, hml, hown, hts, hK, hD, hA, hN, hf, hlo, hcl, hsl⟩ := C
  intro H locs ls hP hS hl
  have he := cv_wl_at (sh := sh) (cA := cA) (a := a) (σ := σ) hk
  rw [hs] at he
  subst hst
  have hm := hM l D cA a H.size
  refine cv_back (σ := σ) (rest := rest) (mc := 0) (ms := 0) (va_runV (As := As.map (cv_v a)) (rest := rest.map (cv_v a)) (C := C0) (Ts := cv_BIG) (bytes := bytes) (maxL := maxL) (ret := ret) (n := np) ⟨hx, hb, hml, hown, hts⟩ hm ⟨callB_of np hts (cv_good hw5) rfl rfl rfl (by rw [hy]; exact hts _ hw4) (hts _ hw1) hyd ⟨by show d' + 1 ≤ R.frames; omega, by show 8 + (maxL + 11) + 34 * d' ≤ R.locals; omega⟩, hts _ hw2, hts _ hw3⟩ ⟨cv_U_blind, va_recv hK hP hc he, fun U hU hW => ⟨rfl, by rw [hU], by rw [hU]; exact hP, va_K.moved hW.alike hK, cv_D_any σ (hD.weaken (fun _ _ _ _ => trivial)), cv_NW_warm hW hN⟩⟩ rfl (by rw [List.length_map]; exact hn) hl.1 (by simp [cv_v]) (lv_room (cv_sum hrm)) hd ⟨hcl, hsl⟩) hD hA hS (fun v u hq H1 locs1 hP1 hS1 => k v u hq H1 locs1 ls hP1 hS1 hl)
/-- invokestatic -/
theorem cv_callS (C : cv_Cx X (n, sh, cells, slots, a) own cc nL d) {pc' : Nat} (hp : pc + 3 = pc') (hM : cv_Ct y bytes maxL ret d' 0 0 n sh As σ Qa) (hyd : y.cls ≠ "java/lang/invoke/MethodHandle" ∧ y.cls ≠ "java/lang/invoke/VarHandle" ∧ (parseMethodDescriptor y.desc).map (fun d => d.parameters.length) = some np) (hn : As.length = np)
    (hw1 : Cond.methodLink own idx y ∈ cv_BIG) (hw2 : Cond.static y ∈ cv_BIG) (hw4 : Cond.initialized y.cls ∈ cv_BIG) (hw5 : Cond.code y bytes maxL ret ∈ cv_BIG) (hdp : d' + 1 ≤ d) (hmx : maxL ≤ 15) (hd : decode cc pc = .ok (.invokestatic idx, 3)) (hrm : (rest.map fun v => v.category).sum ≤ 8)
    {st : List Value} (hst : st = As.reverse ++ rest) (k : ∀ (v : Option Value) (u : cv_St), Qa v u → cv_At X (n, sh, cells, slots, a) nL u pc' lv (v.toList ++ rest)) : cv_At X (n, sh, cells, slots, a) nL σ pc lv st := by
  subst hp
  obtain ⟨p, l, e, R, s, m, args, below, meth, c, Q, D, A, cA⟩ := X
  obtain ⟨hx, hb, hml, hown, hts, hK, hD, hA, hN, hf, hlo, hcl, hsl⟩ := C
  intro H locs ls hP hS hl
  subst hst
  have hm := hM l D cA a H.size
  refine cv_back (σ := σ) (rest := rest) (mc := 0) (ms := 0) (va_runS (As := As.map (cv_v a)) (rest := rest.map (cv_v a)) (Ts := cv_BIG) (bytes := bytes) (maxL := maxL) (ret := ret) (n := np) ⟨hx, hb, hml, hown, hts⟩ hm ⟨callB_of np hts (cv_good hw5) rfl rfl rfl (hts _ hw4) (hts _ hw1) hyd ⟨by show d' + 1 ≤ R.frames; omega, by show 8 + (maxL + 11) + 34 * d' ≤ R.locals; omega⟩, hts _ hw2⟩ ⟨cv_U_blind, fun U hU hW => ⟨rfl, by rw [hU], by rw [hU]; exact hP, va_K.moved hW.alike hK, cv_D_any σ (hD.weaken (fun _ _ _ _ => trivial)), cv_NW_warm hW hN⟩⟩ rfl (by rw [List.length_map]; exact hn) hl.1 (by simp) (lv_room (cv_sum hrm)) hd ⟨hcl, hsl⟩) hD hA hS (fun v u hq H1 locs1 hP1 hS1 => k v u hq H1 locs1 ls hP1 hS1 hl)
/-- invokestatic of a nest mate's private method -/
theorem cv_callSN {host : String} (C : cv_Cx X (n, sh, cells, slots, a) own cc nL d) {pc' : Nat} (hp : pc + 3 = pc') (hM : cv_Ct y bytes maxL ret d' 0 0 n sh As σ Qa) (hyd : y.cls ≠ "java/lang/invoke/MethodHandle" ∧ y.cls ≠ "java/lang/invoke/VarHandle" ∧ (parseMethodDescriptor y.desc).map (fun d => d.parameters.length) = some np) (hn : As.length = np)
    (hw1 : Cond.methodLinkNest own idx y host ∈ cv_NW) (hw2 : Cond.static y ∈ cv_BIG) (hw4 : Cond.initialized y.cls ∈ cv_BIG) (hw5 : Cond.code y bytes maxL ret ∈ cv_BIG) (hdp : d' + 1 ≤ d) (hmx : maxL ≤ 15) (hd : decode cc pc = .ok (.invokestatic idx, 3)) (hrm : (rest.map fun v => v.category).sum ≤ 8)
    {st : List Value} (hst : st = As.reverse ++ rest) (k : ∀ (v : Option Value) (u : cv_St), Qa v u → cv_At X (n, sh, cells, slots, a) nL u pc' lv (v.toList ++ rest)) : cv_At X (n, sh, cells, slots, a) nL σ pc lv st := by
  subst hp
  obtain ⟨p, l, e, R, s, m, args, below, meth, c, Q, D, A, cA⟩ := X
  obtain ⟨hx, hb, hml, hown, hts, hK, hD, hA, hN, hf, hlo, hcl, hsl⟩ := C
  intro H locs ls hP hS hl
  subst hst
  have hm := hM l D cA a H.size
  refine cv_back (σ := σ) (rest := rest) (mc := 0) (ms := 0) (va_runSN (As := As.map (cv_v a)) (rest := rest.map (cv_v a)) (Ts := cv_BIG) (host := host) (bytes := bytes) (maxL := maxL) (ret := ret) (n := np) ⟨hx, hb, hml, hown, hts⟩ hm ⟨va_cnB np hts (cv_good hw5) rfl rfl rfl (hN _ hw1) (hts _ hw4) hyd ⟨by show d' + 1 ≤ R.frames; omega, by show 8 + (maxL + 11) + 34 * d' ≤ R.locals; omega⟩, hts _ hw2, trivial⟩ ⟨cv_U_blind, fun U hU hW => ⟨rfl, by rw [hU], by rw [hU]; exact hP, va_K.moved hW.alike hK, cv_D_any σ (hD.weaken (fun _ _ _ _ => trivial)), cv_NW_warm hW hN⟩⟩ rfl (by rw [List.length_map]; exact hn) hl.1 (by simp) (lv_room (cv_sum hrm)) hd ⟨hcl, hsl⟩) hD hA hS (fun v u hq H1 locs1 hP1 hS1 => k v u hq H1 locs1 ls hP1 hS1 hl)
theorem cv_mmax (C : cv_Cx X (n, sh, cells, slots, a) own cc nL d) {pc' : Nat} (hp : pc + 3 = pc') (hw1 : Cond.methodLink own idx yJ9_max_7cf53 ∈ cv_BIG) (hw2 : Cond.static yJ9_max_7cf53 ∈ cv_BIG) (hw4 : Cond.initialized RJ9 ∈ cv_BIG) (hw5 : Cond.code yJ9_max_7cf53 cJ9_max_7cf53 2 (some .int) ∈ cv_BIG) (hdp : 1 ≤ d) {x z : Int32} (hd : decode cc pc = .ok (.invokestatic idx, 3)) (hrm : (rest.map fun v => v.category).sum ≤ 8) (k : cv_At X (n, sh, cells, slots, a) nL σ pc' lv (.int (if x < z then z else x) :: rest)) : cv_At X (n, sh, cells, slots, a) nL σ pc lv (.int z :: .int x :: rest) := by
  subst hp
  obtain ⟨p, l, e, R, s, m, args, below, meth, c, Q, D, A, cA⟩ := X
  obtain ⟨hx, hb, hml, hown, hts, hK, hD, hA, hN, hf, hlo, hcl, hsl⟩ := C
  intro H locs ls hP hS hl
  have h8 := cv_sum (a := a) hrm
  exact va_mmax hx hb (by rw [hml]; exact hl.1.symm) hown (hts _ hw1) (hts _ hw2) (hts _ hw4) (hts _ hw5) (by omega) (by omega) hcl hsl hd (k H locs ls hP hS hl)
theorem cv_mmin (C : cv_Cx X (n, sh, cells, slots, a) own cc nL d) {pc' : Nat} (hp : pc + 3 = pc') (hw1 : Cond.methodLink own idx yJ9_min_7cf53 ∈ cv_BIG) (hw2 : Cond.static yJ9_min_7cf53 ∈ cv_BIG) (hw4 : Cond.initialized RJ9 ∈ cv_BIG) (hw5 : Cond.code yJ9_min_7cf53 cJ9_min_7cf53 2 (some .int) ∈ cv_BIG) (hdp : 1 ≤ d) {x z : Int32} (hd : decode cc pc = .ok (.invokestatic idx, 3)) (hrm : (rest.map fun v => v.category).sum ≤ 8) (k : cv_At X (n, sh, cells, slots, a) nL σ pc' lv (.int (if z < x then z else x) :: rest)) : cv_At X (n, sh, cells, slots, a) nL σ pc lv (.int z :: .int x :: rest) := by
  subst hp
  obtain ⟨p, l, e, R, s, m, args, below, meth, c, Q, D, A, cA⟩ := X
  obtain ⟨hx, hb, hml, hown, hts, hK, hD, hA, hN, hf, hlo, hcl, hsl⟩ := C
  intro H locs ls hP hS hl
  have h8 := cv_sum (a := a) hrm
  exact va_mmin hx hb (by rw [hml]; exact hl.1.symm) hown (hts _ hw1) (hts _ hw2) (hts _ hw4) (hts _ hw5) (by omega) (by omega) hcl hsl hd (k H locs ls hP hS hl)
end CVC
