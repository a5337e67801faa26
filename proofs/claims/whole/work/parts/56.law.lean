/-! THE CLAIM OUT OF ONE WALK OF THE LAW'S BODY. Your part is whole_start (and what it stands on); all else here is the same for every law, but numbers. -/
def R_law : String := "CheeseValleysLaw"
def lw_P (b : Addr) (xs : List Int32) (args : Array Value) (s : State) : Prop := args = #[.ref b] ∧ s.IntsAt b xs ∧ xs.length ≤ 448 ∧ (Jvm.Cond.and given_1 narrow_1).before args s = true
def lw_Q (_ : Array Value) (s : State) (o : Outcome) (t : State) : Prop := o = .returned (some (.int 1)) ∧ Framed s o t [] 600000 7302250
def lw_Z (below : List Frame) (a : Array Value) (s : State) : State → Prop := fun t => ∃ o, t.status = .running ∧ Ended t below o ∧ lw_Q a s o t
/-- the law's own end, with 1 on the stack, nothing written that was there before, its room as the claim has it -/
theorem lw_ret {p : Program} {l : Launch} {e : Env} {s : State} {m : MethodId} {below : List Frame} {meth : Method} {c : Code} {b : Nat} (hx : p.tables.exec = Jvm.exec) (hb : c.code = code) (hr : meth.sig.returnType = ret) (hlocks : meth.locks = false) {pc : Nat} {H : Heap} {ls : Array Slot} (hdg : decode code pc = .ok (.ireturn, 1)) : W p l e room_1 s m #[Value.ref b] below meth c H [] 600000 7302250 (lw_Z below #[Value.ref b] s) (F0 m pc ls [.int 1]) := by
  intro T hT X
  obtain ⟨fs, hret, hrun, hended, hW, hframe⟩ := X.leave (v := some (.int 1)) (hlocks := hlocks) (fun h => by rw [hr] at h; cases h)
  have hmeth' : T.vm.method? m = some meth := X.method'
  refine ⟨T.setFrames fs, ?_, .returned (some (.int 1)), hrun, hended, rfl, ⟨_, rfl⟩, hW, hframe⟩
  jvm_step X.here [X.here.top, hx, hb, hdg, hmeth', hr, ret, narrow_b1]
  (try refine ⟨rfl, ?_⟩); (try refine ⟨rfl, ?_⟩)
  first | (intro acts; rw [hret _ acts rfl rfl rfl]) | rw [hret _ _ rfl rfl rfl]
  exact Steps.refl _
/-- what holds at the law's entry: the machine, the code, the tables' words (any of lw_tbl by 'hts w (by decide +kernel)'), the script of L ints xs at the cell b, what the Statement gives of the start (any of its parts by flat_of_before) -/
def lw_At (p : Program) (s : State) (m : MethodId) (meth : Method) (c : Code) (b L : Nat) (xs : Nat → Int32) : Prop :=
  p.tables.exec = Jvm.exec ∧ c.code = code ∧ meth.sig.returnType = ret ∧ c.maxLocals = 4 ∧ s.vm.findClass R_law = some m.cls ∧ (∀ w ∈ lw_tbl, w.before #[Value.ref b] s = true) ∧ va_X b L xs s s.heap ∧ b < s.heap.size ∧ meth.locks = false ∧ (Jvm.Cond.and given_1 narrow_1).before #[Value.ref b] s = true
abbrev cv_Z (s : State) : Nat → Prop := fun q => s.heap.size ≤ q
/-- what the law's walk stands on -/
def cv_LX (p : Program) (s : State) (m : MethodId) (meth : Method) (c : Code) (b L : Nat) (xs : Nat → Int32) (D : va_G) (cA : Nat → ClassId) (a ab : Nat → Nat) : Prop := lw_At p s m meth c b L xs ∧ L ≤ 448 ∧ va_K D cv_cl (cv_tys cA) s ∧ va_D (cv_Z s) (cv_wl 26 cv_shC cA a (fun _ _ => 0)) ∧ va_D (cv_Z s) (cv_wl 17 cv_shM cA ab (fun _ _ => 0)) ∧ (∀ j, j < 26 → ∀ k, k < 17 → a j ≠ ab k) ∧ ∀ w ∈ cv_NW, va_Nw w s
/-- the law at pc: both worlds lie there -/
def cv_LA (p : Program) (l : Launch) (e : Env) (s : State) (m : MethodId) (below : List Frame) (meth : Method) (c : Code) (b : Nat) (D : va_G) (cA : Nat → ClassId) (a ab : Nat → Nat) (σ μ : cv_St) (ls : Array Slot) (cells slots pc : Nat) (st : List Value) : Prop := ∀ (H : Heap) (locs : List Loc), va_P D cv_cl (cv_wl 26 cv_shC cA a σ) H → va_P D cv_cl (cv_wl 17 cv_shM cA ab μ) H → va_S (cv_Z s) s.heap H locs → W p l e room_1 s m #[Value.ref b] below meth c H locs cells slots (lw_Z below #[Value.ref b] s) (F0 m pc ls st)
section CVL
variable {p : Program} {l : Launch} {e : Env} {s : State} {m : MethodId} {below : List Frame} {meth : Method} {c : Code} {b L : Nat} {xs : Nat → Int32} {D : va_G} {cA : Nat → ClassId} {a ab : Nat → Nat} {σ μ : cv_St} {ls : Array Slot} {cells slots pc i : Nat} {Q : State → Prop} {R : Room} {H : Heap} {locs : List Loc} {rest : List Value}
/-- script[i + k] -/
theorem cv_larg (hx : p.tables.exec = Jvm.exec) (hb : c.code = code) (hX : va_X b L xs s s.heap) (hbl : b < s.heap.size) (hS : va_S (cv_Z s) s.heap H locs) (h0 : ls[0]? = some (.val (.ref b))) (h3 : ls[3]? = some (.val (.int (nI i)))) {k : Nat} (hik : i + k < L) (hL : L ≤ 448) {n0 : Int} (hn : Int32.ofInt n0 = nI k) (d0 : decode code pc = .ok (.aload_n 0, 1)) (d1 : decode code (pc + 1) = .ok (.iload_n 3, 1)) (d2 : decode code (pc + 2) = .ok (.iconst n0, 1)) (d3 : decode code (pc + 3) = .ok (.iadd, 1)) (d4 : decode code (pc + 4) = .ok (.iaload, 1))
    (kk : W p l e R s m #[Value.ref b] below meth c H locs cells slots Q (F0 m (pc + 5) ls (.int (xs (i + k)) :: rest))) : W p l e R s m #[Value.ref b] below meth c H locs cells slots Q (F0 m pc ls rest) := by
  refine lv_aload_n hx hb d0 rfl h0 ?_
  refine lv_iload_n hx hb d1 rfl h3 ?_
  refine lv_iconst (v := nI k) hx hb d2 hn ?_
  refine lv_iadd hx hb d3 ?_
  rw [nI_add]
  refine va_sld hx hb hX hbl (Nat.not_le.mpr hbl) hS (vp_in_nI hik (by omega)) d4 ?_
  rw [nI_clamp (by omega)]
  exact kk
theorem cv_larg6 (hx : p.tables.exec = Jvm.exec) (hb : c.code = code) (hX : va_X b L xs s s.heap) (hbl : b < s.heap.size) (hS : va_S (cv_Z s) s.heap H locs) (h0 : ls[0]? = some (.val (.ref b))) (h3 : ls[3]? = some (.val (.int (nI i)))) {k : Nat} (hik : i + k < L) (hL : L ≤ 448) {n0 : Int} (hn : (Int8.ofInt n0).toInt32 = nI k) (d0 : decode code pc = .ok (.aload_n 0, 1)) (d1 : decode code (pc + 1) = .ok (.iload_n 3, 1)) (d2 : decode code (pc + 2) = .ok (.bipush n0, 2)) (d3 : decode code (pc + 4) = .ok (.iadd, 1)) (d4 : decode code (pc + 5) = .ok (.iaload, 1))
    (kk : W p l e R s m #[Value.ref b] below meth c H locs cells slots Q (F0 m (pc + 6) ls (.int (xs (i + k)) :: rest))) : W p l e R s m #[Value.ref b] below meth c H locs cells slots Q (F0 m pc ls rest) := by
  refine lv_aload_n hx hb d0 rfl h0 ?_
  refine lv_iload_n hx hb d1 rfl h3 ?_
  refine lv_bipush (v := nI k) hx hb d2 hn ?_
  refine lv_iadd hx hb d3 ?_
  rw [nI_add]
  refine va_sld hx hb hX hbl (Nat.not_le.mpr hbl) hS (vp_in_nI hik (by omega)) d4 ?_
  rw [nI_clamp (by omega)]
  exact kk
/-- behind a call over one world, another beside it -/
theorem cv_back2 {args : Array Value} {A : Nat → Prop} {n : Nat} {sh : Nat → cv_Sh} {st0 : List Value} {mc ms : Nat} {bb : Array Value} {Qa : Option Value → cv_St → Prop} {w2 : va_W}
    (hr : va_Run p l e R s m args below meth c H locs cells slots mc ms (F0 m pc ls st0) rest (cv_Qc D cA a n sh Qa (va_A (cv_wl n sh cA a σ) H.size) bb) (va_A (cv_wl n sh cA a σ) H.size)) (hD : va_D A (cv_wl n sh cA a (fun _ _ => 0))) (hA : ∀ q, s.heap.size ≤ q → A q) (hS : va_S A s.heap H locs) (hP2 : va_P D cv_cl w2 H) (hap : ∀ (k : Nat) (q : Nat × va_E), w2[k]? = some q → ∀ j, j < n → a j ≠ q.1)
    (kk : ∀ (v : Option Value) (u : cv_St), Qa v u → ∀ (H1 : Heap) (locs1 : List Loc), va_P D cv_cl (cv_wl n sh cA a u) H1 → va_P D cv_cl w2 H1 → va_S A s.heap H1 locs1 → W p l e R s m args below meth c H1 locs1 (cells + mc) (slots + ms) Q (F0 m (pc + 3) ls ((v.map (cv_v a)).toList ++ rest))) : W p l e R s m args below meth c H locs cells slots Q (F0 m pc ls st0) := by
  have hF : ∀ q, va_A (cv_wl n sh cA a σ) H.size q → A q := by
    intro q h
    rcases h with ⟨k, e, h⟩ | h
    · have h2 := (cv_D_any σ hD).2 k _ h
      exact h2
    · exact hA q (Nat.le_trans hS.1 h)
  intro T hT Xs
  obtain ⟨v, st₀, t, T', Lo, h0, X', hLo, e1, e2, ⟨⟨v', u, hv, hp, hb⟩, hz, hk⟩, st⟩ := hr T hT Xs
  have hv' : v = v'.map (cv_v a) := by injection hv
  subst hv'
  rw [h0] at hz hk
  have hP3 : va_P D cv_cl w2 T'.heap := hP2.kept (fun k q hq => by
    rw [e1]
    refine hk q.1 (hP2 k q hq).lt (fun hz2 => ?_)
    rcases hz2 with ⟨j, e, hj⟩ | hj
    · obtain ⟨h1, h2⟩ := cv_wl_some hj
      exact hap k q hq j h1 (congrArg Prod.fst h2).symm
    · exact absurd (hP2 k q hq).lt (Nat.not_lt.mpr hj))
  obtain ⟨t2, a1, b1⟩ := kk v' u hp T'.heap (locs ++ Lo) (by rw [e1]; exact hb) hP3
    ⟨Nat.le_trans hS.1 (by rw [e1]; exact hz), fun q h1 h2 => by rw [e1, hk q (Nat.lt_of_lt_of_le h1 hS.1) (fun z => h2 (hF q z))]; exact hS.2.1 q h1 h2, fun q hq => by
      rcases List.mem_append.mp hq with h | h
      · exact hS.2.2 q h
      · exact hF _ (hLo q h)⟩ T' rfl X'
  exact ⟨t2, st t2 a1, b1⟩
variable {y : MethodName} {bytes : ByteArray} {maxL idx d' np mc ms : Nat} {ret : Option FieldType} {As : List Value} {Qa : Option Value → cv_St → Prop} {st : List Value}
/-- the law calls the class -/
theorem cv_lcC (X : cv_LX p s m meth c b L xs D cA a ab) (hsz : ls.size = 4) (hM : cv_Ct y bytes maxL ret d' mc ms 26 cv_shC (.ref 0 :: As) σ Qa) (hy : y.cls = RX6) (hyd : y.cls ≠ "java/lang/invoke/MethodHandle" ∧ y.cls ≠ "java/lang/invoke/VarHandle" ∧ (parseMethodDescriptor y.desc).map (fun d => d.parameters.length) = some np) (hn : As.length = np)
    (hw1 : Cond.methodLink RL idx y ∈ cv_BIG) (hw2 : Cond.instanceMethod y ∈ cv_BIG) (hw3 : Cond.selects RX6 y y ∈ cv_BIG) (hw5 : Cond.code y bytes maxL ret ∈ cv_BIG) (hdp : d' + 1 ≤ 10) (hmx : maxL ≤ 15) (hcl : cells + mc ≤ 600000) (hsl : slots + ms ≤ 7302250) (hd : decode code pc = .ok (.invokevirtual idx, 3)) (hrm : (rest.map fun v => v.category).sum ≤ 8)
    (hst : st = (As.map (cv_v a)).reverse ++ .ref (a 0) :: rest) (k : ∀ (v : Option Value) (u : cv_St), Qa v u → cv_LA p l e s m below meth c b D cA a ab u μ ls (cells + mc) (slots + ms) (pc + 3) ((v.map (cv_v a)).toList ++ rest)) : cv_LA p l e s m below meth c b D cA a ab σ μ ls cells slots pc st := by
  obtain ⟨C0, hL, hK, hD1, hD2, hap, hN⟩ := X
  obtain ⟨hx, hb, hr, hml, hown, hts0, hX, hbl, hlocks, hgv⟩ := C0
  have hts : ∀ w ∈ cv_BIG, w.before #[Value.ref b] s = true := fun w hw => hts0 w (cv_BIG_in w hw)
  have hown : s.vm.findClass RL = some m.cls := hown
  intro H locs hP hPM hS
  have he := cv_wl_at (n := 26) (sh := cv_shC) (cA := cA) (a := a) (σ := σ) (k := 0) (by decide)
  subst hst
  have hm := hM l D cA a H.size
  refine cv_back2 (σ := σ) (rest := rest) (w2 := cv_wl 17 cv_shM cA ab μ) (va_runV (As := As.map (cv_v a)) (rest := rest) (C := RX6) (Ts := cv_BIG) (bytes := bytes) (maxL := maxL) (ret := ret) (n := np) ⟨hx, hb, hml, hown, hts⟩ hm ⟨callB_of np hts (cv_good hw5) rfl rfl rfl (by rw [hy]; exact hts _ wn_X6) (hts _ hw1) hyd ⟨by show d' + 1 ≤ 10; omega, by show 8 + (maxL + 11) + 34 * d' ≤ 382; omega⟩, hts _ hw2, hts _ hw3⟩ ⟨cv_U_blind, va_recv (ci := 6) hK hP rfl he, fun U hU hW => ⟨rfl, by rw [hU], by rw [hU]; exact hP, va_K.moved hW.alike hK, cv_D_any σ (hD1.weaken (fun _ _ _ _ => trivial)), cv_NW_warm hW hN⟩⟩ rfl (by rw [List.length_map]; exact hn) hsz rfl (lv_room hrm) hd ⟨hcl, hsl⟩) hD1 (fun q h => h) hS hPM (fun k q hk j hj => ?_) (fun v u hq H1 locs1 hP1 hP2 hS1 => k v u hq H1 locs1 hP1 hP2 hS1)
  obtain ⟨h1, rfl⟩ := cv_wl_some hk
  exact hap j hj k h1
/-- the law calls the reference -/
theorem cv_lcM (X : cv_LX p s m meth c b L xs D cA a ab) (hsz : ls.size = 4) (hM : cv_Ct y bytes maxL ret d' 0 0 17 cv_shM (.ref 0 :: As) μ Qa) (hy : y.cls = RX7) (hyd : y.cls ≠ "java/lang/invoke/MethodHandle" ∧ y.cls ≠ "java/lang/invoke/VarHandle" ∧ (parseMethodDescriptor y.desc).map (fun d => d.parameters.length) = some np) (hn : As.length = np)
    (hw1 : Cond.methodLink RL idx y ∈ cv_BIG) (hw2 : Cond.instanceMethod y ∈ cv_BIG) (hw3 : Cond.selects RX7 y y ∈ cv_BIG) (hw5 : Cond.code y bytes maxL ret ∈ cv_BIG) (hdp : d' + 1 ≤ 10) (hmx : maxL ≤ 15) (hcl : cells ≤ 600000) (hsl : slots ≤ 7302250) (hd : decode code pc = .ok (.invokevirtual idx, 3)) (hrm : (rest.map fun v => v.category).sum ≤ 8)
    (hst : st = (As.map (cv_v ab)).reverse ++ .ref (ab 0) :: rest) (k : ∀ (v : Option Value) (u : cv_St), Qa v u → cv_LA p l e s m below meth c b D cA a ab σ u ls cells slots (pc + 3) ((v.map (cv_v ab)).toList ++ rest)) : cv_LA p l e s m below meth c b D cA a ab σ μ ls cells slots pc st := by
  obtain ⟨C0, hL, hK, hD1, hD2, hap, hN⟩ := X
  obtain ⟨hx, hb, hr, hml, hown, hts0, hX, hbl, hlocks, hgv⟩ := C0
  have hts : ∀ w ∈ cv_BIG, w.before #[Value.ref b] s = true := fun w hw => hts0 w (cv_BIG_in w hw)
  have hown : s.vm.findClass RL = some m.cls := hown
  intro H locs hP hPM hS
  have he := cv_wl_at (n := 17) (sh := cv_shM) (cA := cA) (a := ab) (σ := μ) (k := 0) (by decide)
  subst hst
  have hm := hM l D cA ab H.size
  refine cv_back2 (σ := μ) (rest := rest) (mc := 0) (ms := 0) (w2 := cv_wl 26 cv_shC cA a σ) (va_runV (As := As.map (cv_v ab)) (rest := rest) (C := RX7) (Ts := cv_BIG) (bytes := bytes) (maxL := maxL) (ret := ret) (n := np) ⟨hx, hb, hml, hown, hts⟩ hm ⟨callB_of np hts (cv_good hw5) rfl rfl rfl (by rw [hy]; exact hts _ wn_X7) (hts _ hw1) hyd ⟨by show d' + 1 ≤ 10; omega, by show 8 + (maxL + 11) + 34 * d' ≤ 382; omega⟩, hts _ hw2, hts _ hw3⟩ ⟨cv_U_blind, va_recv (ci := 7) hK hPM rfl he, fun U hU hW => ⟨rfl, by rw [hU], by rw [hU]; exact hPM, va_K.moved hW.alike hK, cv_D_any μ (hD2.weaken (fun _ _ _ _ => trivial)), cv_NW_warm hW hN⟩⟩ rfl (by rw [List.length_map]; exact hn) hsz rfl (lv_room hrm) hd ⟨hcl, hsl⟩) hD2 (fun q h => h) hS hP (fun k q hk j hj => ?_) (fun v u hq H1 locs1 hP1 hP2 hS1 => k v u hq H1 locs1 hP2 hP1 hS1)
  obtain ⟨h1, rfl⟩ := cv_wl_some hk
  exact fun e => hap k h1 j hj e.symm
end CVL
theorem cv_and31 (x : Int32) : ∃ t : Nat, t < 32 ∧ x &&& nI 31 = nI t := by
  refine ⟨(x.toBitVec &&& 31#32).toNat, ?_, ?_⟩
  · rw [BitVec.toNat_and]
    exact Nat.lt_of_le_of_lt Nat.and_le_right (by decide)
  · apply Int32.toBitVec_inj.mp
    show x.toBitVec &&& 31#32 = BitVec.ofNat 32 _
    rw [BitVec.ofNat_toNat, BitVec.setWidth_eq]
theorem cv_l7 {L i : Nat} (hL : L ≤ 448) (hi : i ≤ 1000) : (nI L - nI 7 < nI i) ↔ L < i + 7 := by
  have h7 : (nI 7).toInt = 7 := by decide
  have e1 : (nI L).toInt = L := nI_toInt (by omega)
  have e2 : (nI i).toInt = i := nI_toInt (by omega)
  rw [Int32.lt_iff_toInt_lt, Int32.toInt_sub, e1, e2, h7, Int.bmod_def]
  omega
