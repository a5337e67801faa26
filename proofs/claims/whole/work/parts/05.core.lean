/-! ===== the abstract world: cells by number, ints by (cell, slot), references fixed by a shape ===== -/
abbrev cv_St : Type := Nat → Nat → Int32
/-- the shape of a cell: an object (class, fields: none an int, some j the cell j), an int array of a length, an array of references (kind, cells) -/
abbrev cv_Sh : Type := (Nat × List (Option Nat)) ⊕ (Nat ⊕ (Nat × List Nat))
abbrev cv_cl : List vw_C := [(RX0, TX0, 7), (RX1, TX1, 5), (RX2, TX2, 3), (RX3, TX3, 3), (RX4, TX4, 3), (RX5, TX5, 4), (RX6, TX6, 6), (RX7, TX7, 29)]
abbrev cv_tys (cA : Nat → ClassId) : List (ClassId × FieldType) := [(cA 0, .int), (cA 1, .object RX3), (cA 2, .object RX1)]
def cv_fv (a : Nat → Nat) (f : Nat → Int32) (i : Nat) (o : Option Nat) : Value := match o with
  | none => .int (f i)
  | some j => .ref (a j)
def cv_E (cA : Nat → ClassId) (a : Nat → Nat) (sh : cv_Sh) (f : Nat → Int32) : va_E := match sh with
  | .inl o => .inr (o.1, o.2.mapIdx (cv_fv a f))
  | .inr (.inl n) => .inl (cA 0, n, .inl f)
  | .inr (.inr r) => .inl (cA r.1, r.2.length, .inr (.inr (.inr (.inr (fun i => (r.2[i]?).map a)))))
def cv_wl (n : Nat) (sh : Nat → cv_Sh) (cA : Nat → ClassId) (a : Nat → Nat) (σ : cv_St) : va_W := (List.range n).map (fun k => (a k, cv_E cA a (sh k) (σ k)))
def cv_uc (σ : cv_St) (k : Nat) (f : Nat → Int32) : cv_St := fun j => if j = k then f else σ j
theorem cv_uc_s {σ : cv_St} {k : Nat} {f : Nat → Int32} : cv_uc σ k f k = f := by simp [cv_uc]
theorem cv_uc_n {σ : cv_St} {k j : Nat} {f : Nat → Int32} (h : j ≠ k) : cv_uc σ k f j = σ j := by simp [cv_uc, h]
/-- one int of a cell -/
def cv_u (σ : cv_St) (k i : Nat) (v : Int32) : cv_St := cv_uc σ k (upd (σ k) i v)
theorem cv_u_s {σ : cv_St} {k i : Nat} {v : Int32} : cv_u σ k i v k i = v := by simp [cv_u, cv_uc, upd]
theorem cv_u_c {σ : cv_St} {k i j : Nat} {v : Int32} (h : j ≠ k) : cv_u σ k i v j = σ j := by simp [cv_u, cv_uc, h]
theorem cv_u_i {σ : cv_St} {k i j : Nat} {v : Int32} (h : j ≠ i) : cv_u σ k i v k j = σ k j := by simp [cv_u, cv_uc, upd, h]
theorem cv_u_at (σ : cv_St) (k i : Nat) (v : Int32) (k' i' : Nat) : cv_u σ k i v k' i' = if k' = k ∧ i' = i then v else σ k' i' := by
  by_cases h : k' = k
  · subst h
    by_cases h2 : i' = i
    · subst h2; simp [cv_u_s]
    · simp [cv_u_i h2, h2]
  · rw [cv_u_c h]; simp [h]
theorem cv_wl_at {n : Nat} {sh : Nat → cv_Sh} {cA : Nat → ClassId} {a : Nat → Nat} {σ : cv_St} {k : Nat} (h : k < n) : (cv_wl n sh cA a σ)[k]? = some (a k, cv_E cA a (sh k) (σ k)) := by
  simp [cv_wl, h]
theorem cv_wl_len {n : Nat} {sh : Nat → cv_Sh} {cA : Nat → ClassId} {a : Nat → Nat} {σ : cv_St} : (cv_wl n sh cA a σ).length = n := by simp [cv_wl]
theorem cv_wl_some {n : Nat} {sh : Nat → cv_Sh} {cA : Nat → ClassId} {a : Nat → Nat} {σ : cv_St} {k : Nat} {q : Nat × va_E} (h : (cv_wl n sh cA a σ)[k]? = some q) : k < n ∧ q = (a k, cv_E cA a (sh k) (σ k)) := by
  have hk : k < n := by
    have := (List.getElem?_eq_some_iff.mp h).1
    rwa [cv_wl_len] at this
  rw [cv_wl_at hk] at h
  exact ⟨hk, (Option.some.inj h).symm⟩
theorem cv_wl_set {n : Nat} {sh : Nat → cv_Sh} {cA : Nat → ClassId} {a : Nat → Nat} {σ : cv_St} {k : Nat} {f : Nat → Int32} {e : va_E} (h : k < n) (he : cv_E cA a (sh k) f = e) : (cv_wl n sh cA a σ).set k (a k, e) = cv_wl n sh cA a (cv_uc σ k f) := by
  subst he
  apply List.ext_getElem?
  intro j
  by_cases hj : j < n
  · by_cases e : j = k
    · subst e
      rw [List.getElem?_set_self (by rw [cv_wl_len]; exact h), cv_wl_at h, cv_uc_s]
    · rw [List.getElem?_set_ne (Ne.symm e), cv_wl_at hj, cv_wl_at hj, cv_uc_n e]
  · rw [List.getElem?_eq_none (by rw [List.length_set, cv_wl_len]; omega), List.getElem?_eq_none (by rw [cv_wl_len]; omega)]
theorem cv_D_any {A : Nat → Prop} {n : Nat} {sh : Nat → cv_Sh} {cA : Nat → ClassId} {a : Nat → Nat} {σ : cv_St} (τ : cv_St) (h : va_D A (cv_wl n sh cA a σ)) : va_D A (cv_wl n sh cA a τ) := by
  refine ⟨fun i j x y hi hj hxy => ?_, fun k q hk => ?_⟩
  · obtain ⟨h1, rfl⟩ := cv_wl_some hi
    obtain ⟨h2, rfl⟩ := cv_wl_some hj
    exact h.1 i j _ _ (cv_wl_at h1) (cv_wl_at h2) hxy
  · obtain ⟨h1, rfl⟩ := cv_wl_some hk
    exact h.2 k (a k, cv_E cA a (sh k) (σ k)) (cv_wl_at h1)
theorem cv_A_any {n : Nat} {sh : Nat → cv_Sh} {cA : Nat → ClassId} {a : Nat → Nat} {σ : cv_St} (τ : cv_St) {sz q : Nat} (h : va_A (cv_wl n sh cA a σ) sz q) : va_A (cv_wl n sh cA a τ) sz q := by
  rcases h with ⟨k, e, h⟩ | h
  · obtain ⟨h1, h2⟩ := cv_wl_some h
    have : q = a k := congrArg Prod.fst h2
    subst this
    exact Or.inl ⟨k, _, cv_wl_at h1⟩
  · exact Or.inr h
theorem cv_fs_at {a : Nat → Nat} {f : Nat → Int32} {l : List (Option Nat)} {i : Nat} {o : Option Nat} (h : l[i]? = some o) : (l.mapIdx (cv_fv a f))[i]? = some (cv_fv a f i o) := by
  rw [List.getElem?_mapIdx, h]; rfl
theorem cv_fs_set {a : Nat → Nat} {f : Nat → Int32} {l : List (Option Nat)} {i : Nat} {v : Int32} (h : l[i]? = some none) : (l.mapIdx (cv_fv a f)).set i (.int v) = l.mapIdx (cv_fv a (upd f i v)) := by
  have hl := (List.getElem?_eq_some_iff.mp h).1
  apply List.ext_getElem?
  intro j
  by_cases e : j = i
  · subst e
    rw [List.getElem?_set_self (by rw [List.length_mapIdx]; exact hl), List.getElem?_mapIdx, h]
    simp [cv_fv, upd]
  · rw [List.getElem?_set_ne (Ne.symm e), List.getElem?_mapIdx, List.getElem?_mapIdx]
    cases h2 : l[j]? with
    | none => rfl
    | some o => cases o <;> simp [cv_fv, upd, e]
/-- the value of a number of a cell -/
def cv_v (a : Nat → Nat) : Value → Value
  | .ref k => .ref (a k)
  | v => v
theorem cv_v_cat (a : Nat → Nat) (v : Value) : (cv_v a v).category = v.category := by cases v <;> rfl
abbrev cv_lm (a : Nat → Nat) (lv : List (Nat × Value)) : List (Nat × Value) := lv.map (fun q => (q.1, cv_v a q.2))
theorem cv_args (a : Nat → Nat) : ∀ (av : List Value) (i : Nat), lv_args i (av.map (cv_v a)) = cv_lm a (lv_args i av)
  | [], _ => rfl
  | v :: r, i => by
    simp only [List.map_cons, lv_args, cv_v_cat, cv_args a r]
theorem cv_sl_len (a : Nat → Nat) : ∀ (av : List Value), (lg_sl (av.map (cv_v a))).length = (lg_sl av).length
  | [] => rfl
  | v :: r => by
    have := cv_sl_len a r
    cases v <;> simp [lg_sl, cv_v, Value.category, this] at this ⊢ <;> omega
abbrev cv_X : Type := Program × Launch × Env × Room × State × MethodId × Array Value × List Frame × Method × Code × (State → Prop) × va_G × (Nat → Prop) × (Nat → ClassId)
abbrev cv_Y : Type := Nat × (Nat → cv_Sh) × Nat × Nat × (Nat → Nat)
/-- THE JUDGEMENT: at pc, with the ints σ, locals lv, stack st, the machine comes to its end as owed -/
def cv_At : cv_X → cv_Y → Nat → cv_St → Nat → List (Nat × Value) → List Value → Prop
  | (p, l, e, R, s, m, args, below, meth, c, Q, D, A, cA), (n, sh, cells, slots, a), nL, σ, pc, lv, st => ∀ (H : Heap) (locs : List Loc) (ls : Array Slot), va_P D cv_cl (cv_wl n sh cA a σ) H → va_S A s.heap H locs → lv_has ls nL (cv_lm a lv) → W p l e R s m args below meth c H locs cells slots Q (F0 m pc ls (st.map (cv_v a)))
/-- what a method's walk stands on; d: how many calls may still go deeper -/
def cv_Cx : cv_X → cv_Y → String → ByteArray → Nat → Nat → Prop
  | (p, l, e, R, s, m, args, below, meth, c, Q, D, A, cA), (n, sh, cells, slots, a), own, cc, nL, d => p.tables.exec = Jvm.exec ∧ c.code = cc ∧ c.maxLocals = nL ∧ s.vm.findClass own = some m.cls ∧ (∀ w ∈ cv_BIG, w.before args s = true) ∧ va_K D cv_cl (cv_tys cA) s ∧ va_D A (cv_wl n sh cA a (fun _ _ => 0)) ∧ (∀ q, s.heap.size ≤ q → A q) ∧ (∀ w ∈ cv_NW, va_Nw w s) ∧ d ≤ R.frames ∧ 34 * d ≤ R.locals ∧ cells ≤ R.cells ∧ slots ≤ R.slots
def cv_U (D : va_G) (cA : Nat → ClassId) (a : Nat → Nat) (n : Nat) (sh : Nat → cv_Sh) (σ : cv_St) (sz : Nat) (U : State) : Prop := U.heap.size = sz ∧ va_P D cv_cl (cv_wl n sh cA a σ) U.heap ∧ va_K D cv_cl (cv_tys cA) U ∧ va_D (fun _ => True) (cv_wl n sh cA a σ) ∧ ∀ w ∈ cv_NW, va_Nw w U
def cv_Qc (D : va_G) (cA : Nat → ClassId) (a : Nat → Nat) (n : Nat) (sh : Nat → cv_Sh) (Qa : Option Value → cv_St → Prop) (A : Nat → Prop) : Array Value → State → Outcome → State → Prop := fun _ st oc t => (∃ (v : Option Value) (u : cv_St), oc = .returned (v.map (cv_v a)) ∧ Qa v u ∧ va_P D cv_cl (cv_wl n sh cA a u) t.heap) ∧ va_F A st t
abbrev cv_rm (d mc ms : Nat) : Room := { frames := d, cells := mc, slots := ms, locals := 34 * d }
/-- A METHOD'S CONTRACT over the abstract world -/
def cv_Ct (y : MethodName) (cc : ByteArray) (maxL : Nat) (ret : Option FieldType) (d mc ms : Nat) (n : Nat) (sh : Nat → cv_Sh) (av : List Value) (σ : cv_St) (Qa : Option Value → cv_St → Prop) : Prop :=
  ∀ (l : Launch) (D : va_G) (cA : Nat → ClassId) (a : Nat → Nat) (sz : Nat), Met l y (Cond.code y cc maxL ret :: cv_BIG) (cv_rm d mc ms) (va_Pc (av.map (cv_v a)) (cv_U D cA a n sh σ sz)) (cv_Qc D cA a n sh Qa (va_A (cv_wl n sh cA a σ) sz)) mc ms (va_A (cv_wl n sh cA a σ) sz)
/-- what a return owes -/
def cv_Rt : cv_X → cv_Y → Option FieldType → Nat → Nat → (Option Value → cv_St → Prop) → Prop
  | (p, l, e, R, s, m, args, below, meth, c, Q, D, A, cA), (n, sh, cells, slots, a), ret, mc, ms, Qa => meth.sig.returnType = ret ∧ meth.locks = false ∧ cells ≤ mc ∧ slots ≤ ms ∧ Q = MQ below (cv_Qc D cA a n sh Qa A) args s mc ms A
theorem cv_NW_tab : ∀ w ∈ cv_NW, w.onTables = true := by decide +kernel
theorem cv_NW_warm {s U : State} (hW : s.WarmedH U.vm) (h : ∀ w ∈ cv_NW, va_Nw w s) : ∀ w ∈ cv_NW, va_Nw w U := by
  intro w hw
  have h0 := h w hw
  simp only [cv_NW, List.mem_cons, List.not_mem_nil, or_false] at hw
  rcases hw with rfl | rfl | rfl | rfl | rfl | rfl | rfl <;> exact va_Nw.warmM hW h0
/-- a method's head -/
theorem cv_enter {y : MethodName} {cc : ByteArray} {maxL : Nat} {ret : Option FieldType} {d mc ms n : Nat} {sh : Nat → cv_Sh} {av : List Value} {σ : cv_St} {Qa : Option Value → cv_St → Prop} {own : String} (hy : plainName y.cls = true) (hc : y.cls = own) (hlen : (lg_sl av).length ≤ maxL)
    (body : ∀ (X : cv_X) (a : Nat → Nat), cv_Cx X (n, sh, 0, 0, a) own cc maxL d → cv_Rt X (n, sh, 0, 0, a) ret mc ms Qa → X.2.2.2.1 = cv_rm d mc ms → cv_At X (n, sh, 0, 0, a) maxL σ 0 (lv_args 0 av) []) : cv_Ct y cc maxL ret d mc ms n sh av σ Qa := by
  intro l D cA a sz
  subst hc
  refine Met.ofW (cc := cc) (maxL := maxL) (ret := ret) hy rfl ?_
  intro p e s m args below meth c s₁ B hml hv
  obtain ⟨rfl, hsz, hP, hK, hD0, hN⟩ := hv
  have hts := atoms_spec (ws := Cond.code y cc maxL ret :: cv_BIG) B.pre
  have hown : s.vm.findClass y.cls = some m.cls := findClass_of_methodNamed B.named
  subst hsz
  have hD := hD0.self (sz := s.heap.size)
  have hA : ∀ q : Nat, s.heap.size ≤ q → va_A (cv_wl n sh cA a σ) s.heap.size q := fun q h => Or.inr h
  have hl := lv_entry (av.map (cv_v a)) (n := maxL) (by rw [cv_sl_len]; exact hlen)
  rw [cv_args] at hl
  rw [lg_entry_eq]
  exact body (p, l, e, (headSpec (Cond.code y cc maxL ret :: cv_BIG) (cv_rm d mc ms)).room, s, m, _, below, meth, c, _, D, _, cA) a
    ⟨B.exec, B.bytes, hml, hown, fun w hw => hts w (List.mem_cons_of_mem _ hw), hK, cv_D_any _ hD, hA, hN, Nat.le_refl d, Nat.le_refl _, Nat.zero_le _, Nat.zero_le _⟩ ⟨B.returns, B.notSynchronized, Nat.zero_le _, Nat.zero_le _, rfl⟩ rfl s.heap [] _ hP va_S.rf hl
