section CVR
variable {X : cv_X} {Y : cv_Y} {own : String} {cc : ByteArray} {nL d : Nat} {σ : cv_St} {pc : Nat} {lv lv' : List (Nat × Value)} {st : List Value}
theorem cv_iconst (C : cv_Cx X Y own cc nL d) {pc' : Nat} (hp : pc + 1 = pc') {v : Int32} {n0 : Int} (hd : decode cc pc = .ok (.iconst n0, 1)) (hv : Int32.ofInt n0 = v) (k : cv_At X Y nL σ pc' lv (.int v :: st)) : cv_At X Y nL σ pc lv st := by
  subst hp
  obtain ⟨p, l, e, R, s, m, args, below, meth, c, Q, D, A, cA⟩ := X
  obtain ⟨n, sh, cells, slots, a⟩ := Y
  intro H locs ls hP hS hl
  exact lv_iconst C.1 C.2.1 hd hv (k H locs ls hP hS hl)
theorem cv_bipush (C : cv_Cx X Y own cc nL d) {pc' : Nat} (hp : pc + 2 = pc') {v : Int32} {n0 : Int} (hd : decode cc pc = .ok (.bipush n0, 2)) (hv : (Int8.ofInt n0).toInt32 = v) (k : cv_At X Y nL σ pc' lv (.int v :: st)) : cv_At X Y nL σ pc lv st := by
  subst hp
  obtain ⟨p, l, e, R, s, m, args, below, meth, c, Q, D, A, cA⟩ := X
  obtain ⟨n, sh, cells, slots, a⟩ := Y
  intro H locs ls hP hS hl
  exact lv_bipush C.1 C.2.1 hd hv (k H locs ls hP hS hl)
theorem cv_sipush (C : cv_Cx X Y own cc nL d) {pc' : Nat} (hp : pc + 3 = pc') {v : Int32} {n0 : Int} (hd : decode cc pc = .ok (.sipush n0, 3)) (hv : (Int16.ofInt n0).toInt32 = v) (k : cv_At X Y nL σ pc' lv (.int v :: st)) : cv_At X Y nL σ pc lv st := by
  subst hp
  obtain ⟨p, l, e, R, s, m, args, below, meth, c, Q, D, A, cA⟩ := X
  obtain ⟨n, sh, cells, slots, a⟩ := Y
  intro H locs ls hP hS hl
  exact lv_sipush C.1 C.2.1 hd hv (k H locs ls hP hS hl)
theorem cv_lconst (C : cv_Cx X Y own cc nL d) {pc' : Nat} (hp : pc + 1 = pc') {v : Int64} {n0 : Fin 2} (hd : decode cc pc = .ok (.lconst n0, 1)) (hv : Int64.ofNat (n0 : Nat) = v) (k : cv_At X Y nL σ pc' lv (.long v :: st)) : cv_At X Y nL σ pc lv st := by
  subst hp
  obtain ⟨p, l, e, R, s, m, args, below, meth, c, Q, D, A, cA⟩ := X
  obtain ⟨n, sh, cells, slots, a⟩ := Y
  intro H locs ls hP hS hl
  exact lv_lconst C.1 C.2.1 hd hv (k H locs ls hP hS hl)
theorem cv_iload_n (C : cv_Cx X Y own cc nL d) {pc' : Nat} (hp : pc + 1 = pc') {k0 : Fin 4} {i j : Nat} {x : Int32} (hd : decode cc pc = .ok (.iload_n k0, 1)) (hi : (k0 : Nat) = i) (hj : lv[j]? = some (i, .int x)) (k : cv_At X Y nL σ pc' lv (.int x :: st)) : cv_At X Y nL σ pc lv st := by
  subst hp
  obtain ⟨p, l, e, R, s, m, args, below, meth, c, Q, D, A, cA⟩ := X
  obtain ⟨n, sh, cells, slots, a⟩ := Y
  intro H locs ls hP hS hl
  exact lv_iload_n C.1 C.2.1 hd hi (lv_at hl j (by rw [List.getElem?_map, hj]; rfl)) (k H locs ls hP hS hl)
theorem cv_iload (C : cv_Cx X Y own cc nL d) {pc' : Nat} (hp : pc + 2 = pc') {i j : Nat} {x : Int32} (hd : decode cc pc = .ok (.iload i, 2)) (hj : lv[j]? = some (i, .int x)) (k : cv_At X Y nL σ pc' lv (.int x :: st)) : cv_At X Y nL σ pc lv st := by
  subst hp
  obtain ⟨p, l, e, R, s, m, args, below, meth, c, Q, D, A, cA⟩ := X
  obtain ⟨n, sh, cells, slots, a⟩ := Y
  intro H locs ls hP hS hl
  exact lv_iload C.1 C.2.1 hd (lv_at hl j (by rw [List.getElem?_map, hj]; rfl)) (k H locs ls hP hS hl)
theorem cv_aload_n (C : cv_Cx X Y own cc nL d) {pc' : Nat} (hp : pc + 1 = pc') {k0 : Fin 4} {i j : Nat} {x : Nat} (hd : decode cc pc = .ok (.aload_n k0, 1)) (hi : (k0 : Nat) = i) (hj : lv[j]? = some (i, .ref x)) (k : cv_At X Y nL σ pc' lv (.ref x :: st)) : cv_At X Y nL σ pc lv st := by
  subst hp
  obtain ⟨p, l, e, R, s, m, args, below, meth, c, Q, D, A, cA⟩ := X
  obtain ⟨n, sh, cells, slots, a⟩ := Y
  intro H locs ls hP hS hl
  exact lv_aload_n C.1 C.2.1 hd hi (lv_at hl j (by rw [List.getElem?_map, hj]; rfl)) (k H locs ls hP hS hl)
theorem cv_aload (C : cv_Cx X Y own cc nL d) {pc' : Nat} (hp : pc + 2 = pc') {i j : Nat} {x : Nat} (hd : decode cc pc = .ok (.aload i, 2)) (hj : lv[j]? = some (i, .ref x)) (k : cv_At X Y nL σ pc' lv (.ref x :: st)) : cv_At X Y nL σ pc lv st := by
  subst hp
  obtain ⟨p, l, e, R, s, m, args, below, meth, c, Q, D, A, cA⟩ := X
  obtain ⟨n, sh, cells, slots, a⟩ := Y
  intro H locs ls hP hS hl
  exact lv_aload C.1 C.2.1 hd (lv_at hl j (by rw [List.getElem?_map, hj]; rfl)) (k H locs ls hP hS hl)
theorem cv_lload_n (C : cv_Cx X Y own cc nL d) {pc' : Nat} (hp : pc + 1 = pc') {k0 : Fin 4} {i j : Nat} {x : Int64} (hd : decode cc pc = .ok (.lload_n k0, 1)) (hi : (k0 : Nat) = i) (hj : lv[j]? = some (i, .long x)) (k : cv_At X Y nL σ pc' lv (.long x :: st)) : cv_At X Y nL σ pc lv st := by
  subst hp
  obtain ⟨p, l, e, R, s, m, args, below, meth, c, Q, D, A, cA⟩ := X
  obtain ⟨n, sh, cells, slots, a⟩ := Y
  intro H locs ls hP hS hl
  exact lv_lload_n C.1 C.2.1 hd hi (lv_at hl j (by rw [List.getElem?_map, hj]; rfl)) (k H locs ls hP hS hl)
theorem cv_lload (C : cv_Cx X Y own cc nL d) {pc' : Nat} (hp : pc + 2 = pc') {i j : Nat} {x : Int64} (hd : decode cc pc = .ok (.lload i, 2)) (hj : lv[j]? = some (i, .long x)) (k : cv_At X Y nL σ pc' lv (.long x :: st)) : cv_At X Y nL σ pc lv st := by
  subst hp
  obtain ⟨p, l, e, R, s, m, args, below, meth, c, Q, D, A, cA⟩ := X
  obtain ⟨n, sh, cells, slots, a⟩ := Y
  intro H locs ls hP hS hl
  exact lv_lload C.1 C.2.1 hd (lv_at hl j (by rw [List.getElem?_map, hj]; rfl)) (k H locs ls hP hS hl)
theorem cv_lmf {a : Nat → Nat} {lv lv' : List (Nat × Value)} {i : Nat} {v : Value} (g : Nat → Nat → Bool) (h : (i, v) :: lv.filter (fun q => g q.1 q.2.category) = lv') : (i, cv_v a v) :: (cv_lm a lv).filter (fun q => g q.1 q.2.category) = cv_lm a lv' := by
  subst h
  simp only [cv_lm, List.map_cons, List.filter_map]
  congr 2
  apply List.filter_congr
  intro q _
  simp [Function.comp, cv_v_cat]
theorem cv_istore_n (C : cv_Cx X Y own cc nL d) {pc' : Nat} (hp : pc + 1 = pc') {k0 : Fin 4} {i : Nat} {x : Int32} (hd : decode cc pc = .ok (.istore_n k0, 1)) (hi : (k0 : Nat) = i) (hn : i < nL) (hl' : (i, Value.int x) :: lv.filter (fun q => !(q.1 == i) && !(q.1 + 1 == i && q.2.category == 2)) = lv') (k : cv_At X Y nL σ pc' lv' st) : cv_At X Y nL σ pc lv (.int x :: st) := by
  subst hp
  obtain ⟨p, l, e, R, s, m, args, below, meth, c, Q, D, A, cA⟩ := X
  obtain ⟨n, sh, cells, slots, a⟩ := Y
  intro H locs ls hP hS hl
  exact lv_istore_n C.1 C.2.1 hd hi hl hn (cv_lmf (a := a) (fun x y => !(x == i) && !(x + 1 == i && y == 2)) hl') (fun ls' hl2 => k H locs ls' hP hS hl2)
theorem cv_istore (C : cv_Cx X Y own cc nL d) {pc' : Nat} (hp : pc + 2 = pc') {i : Nat} {x : Int32} (hd : decode cc pc = .ok (.istore i, 2)) (hn : i < nL) (hl' : (i, Value.int x) :: lv.filter (fun q => !(q.1 == i) && !(q.1 + 1 == i && q.2.category == 2)) = lv') (k : cv_At X Y nL σ pc' lv' st) : cv_At X Y nL σ pc lv (.int x :: st) := by
  subst hp
  obtain ⟨p, l, e, R, s, m, args, below, meth, c, Q, D, A, cA⟩ := X
  obtain ⟨n, sh, cells, slots, a⟩ := Y
  intro H locs ls hP hS hl
  exact lv_istore C.1 C.2.1 hd hl hn (cv_lmf (a := a) (fun x y => !(x == i) && !(x + 1 == i && y == 2)) hl') (fun ls' hl2 => k H locs ls' hP hS hl2)
theorem cv_astore_n (C : cv_Cx X Y own cc nL d) {pc' : Nat} (hp : pc + 1 = pc') {k0 : Fin 4} {i : Nat} {x : Nat} (hd : decode cc pc = .ok (.astore_n k0, 1)) (hi : (k0 : Nat) = i) (hn : i < nL) (hl' : (i, Value.ref x) :: lv.filter (fun q => !(q.1 == i) && !(q.1 + 1 == i && q.2.category == 2)) = lv') (k : cv_At X Y nL σ pc' lv' st) : cv_At X Y nL σ pc lv (.ref x :: st) := by
  subst hp
  obtain ⟨p, l, e, R, s, m, args, below, meth, c, Q, D, A, cA⟩ := X
  obtain ⟨n, sh, cells, slots, a⟩ := Y
  intro H locs ls hP hS hl
  exact lv_astore_n C.1 C.2.1 hd hi hl hn (cv_lmf (a := a) (fun x y => !(x == i) && !(x + 1 == i && y == 2)) hl') (fun ls' hl2 => k H locs ls' hP hS hl2)
theorem cv_astore (C : cv_Cx X Y own cc nL d) {pc' : Nat} (hp : pc + 2 = pc') {i : Nat} {x : Nat} (hd : decode cc pc = .ok (.astore i, 2)) (hn : i < nL) (hl' : (i, Value.ref x) :: lv.filter (fun q => !(q.1 == i) && !(q.1 + 1 == i && q.2.category == 2)) = lv') (k : cv_At X Y nL σ pc' lv' st) : cv_At X Y nL σ pc lv (.ref x :: st) := by
  subst hp
  obtain ⟨p, l, e, R, s, m, args, below, meth, c, Q, D, A, cA⟩ := X
  obtain ⟨n, sh, cells, slots, a⟩ := Y
  intro H locs ls hP hS hl
  exact lv_astore C.1 C.2.1 hd hl hn (cv_lmf (a := a) (fun x y => !(x == i) && !(x + 1 == i && y == 2)) hl') (fun ls' hl2 => k H locs ls' hP hS hl2)
theorem cv_lstore (C : cv_Cx X Y own cc nL d) {pc' : Nat} (hp : pc + 2 = pc') {i : Nat} {x : Int64} (hd : decode cc pc = .ok (.lstore i, 2)) (hn : i + 1 < nL) (hl' : (i, Value.long x) :: lv.filter (fun q => !(q.1 == i) && (!(q.1 == i + 1) && !(q.1 + 1 == i && q.2.category == 2))) = lv') (k : cv_At X Y nL σ pc' lv' st) : cv_At X Y nL σ pc lv (.long x :: st) := by
  subst hp
  obtain ⟨p, l, e, R, s, m, args, below, meth, c, Q, D, A, cA⟩ := X
  obtain ⟨n, sh, cells, slots, a⟩ := Y
  intro H locs ls hP hS hl
  exact lv_lstore C.1 C.2.1 hd hl hn (cv_lmf (a := a) (fun x y => !(x == i) && (!(x == i + 1) && !(x + 1 == i && y == 2))) hl') (fun ls' hl2 => k H locs ls' hP hS hl2)
theorem cv_iinc (C : cv_Cx X Y own cc nL d) {pc' : Nat} (hp : pc + 3 = pc') {i j : Nat} {n0 : Int} {x v : Int32} (hd : decode cc pc = .ok (.iinc i n0, 3)) (hj : lv[j]? = some (i, .int x)) (hv : x + Int32.ofInt n0 = v) (hn : i < nL) (hl' : (i, Value.int v) :: lv.filter (fun q => !(q.1 == i) && !(q.1 + 1 == i && q.2.category == 2)) = lv') (k : cv_At X Y nL σ pc' lv' st) : cv_At X Y nL σ pc lv st := by
  subst hp
  obtain ⟨p, l, e, R, s, m, args, below, meth, c, Q, D, A, cA⟩ := X
  obtain ⟨n, sh, cells, slots, a⟩ := Y
  intro H locs ls hP hS hl
  exact lv_iinc C.1 C.2.1 hd hl (k := j) (by rw [List.getElem?_map, hj]; rfl) hv hn (cv_lmf (a := a) (fun x y => !(x == i) && !(x + 1 == i && y == 2)) hl') (fun ls' hl2 => k H locs ls' hP hS hl2)
theorem cv_iadd (C : cv_Cx X Y own cc nL d) {pc' : Nat} (hp : pc + 1 = pc') {x y : Int32} (hd : decode cc pc = .ok (.iadd, 1)) (k : cv_At X Y nL σ pc' lv (.int (x + y) :: st)) : cv_At X Y nL σ pc lv (.int y :: .int x :: st) := by
  subst hp
  obtain ⟨p, l, e, R, s, m, args, below, meth, c, Q, D, A, cA⟩ := X
  obtain ⟨n, sh, cells, slots, a⟩ := Y
  intro H locs ls hP hS hl
  exact lv_iadd C.1 C.2.1 hd (k H locs ls hP hS hl)
theorem cv_isub (C : cv_Cx X Y own cc nL d) {pc' : Nat} (hp : pc + 1 = pc') {x y : Int32} (hd : decode cc pc = .ok (.isub, 1)) (k : cv_At X Y nL σ pc' lv (.int (x - y) :: st)) : cv_At X Y nL σ pc lv (.int y :: .int x :: st) := by
  subst hp
  obtain ⟨p, l, e, R, s, m, args, below, meth, c, Q, D, A, cA⟩ := X
  obtain ⟨n, sh, cells, slots, a⟩ := Y
  intro H locs ls hP hS hl
  exact lv_isub C.1 C.2.1 hd (k H locs ls hP hS hl)
theorem cv_imul (C : cv_Cx X Y own cc nL d) {pc' : Nat} (hp : pc + 1 = pc') {x y : Int32} (hd : decode cc pc = .ok (.imul, 1)) (k : cv_At X Y nL σ pc' lv (.int (x * y) :: st)) : cv_At X Y nL σ pc lv (.int y :: .int x :: st) := by
  subst hp
  obtain ⟨p, l, e, R, s, m, args, below, meth, c, Q, D, A, cA⟩ := X
  obtain ⟨n, sh, cells, slots, a⟩ := Y
  intro H locs ls hP hS hl
  exact lv_imul C.1 C.2.1 hd (k H locs ls hP hS hl)
theorem cv_iand (C : cv_Cx X Y own cc nL d) {pc' : Nat} (hp : pc + 1 = pc') {x y : Int32} (hd : decode cc pc = .ok (.iand, 1)) (k : cv_At X Y nL σ pc' lv (.int (x &&& y) :: st)) : cv_At X Y nL σ pc lv (.int y :: .int x :: st) := by
  subst hp
  obtain ⟨p, l, e, R, s, m, args, below, meth, c, Q, D, A, cA⟩ := X
  obtain ⟨n, sh, cells, slots, a⟩ := Y
  intro H locs ls hP hS hl
  exact lv_iand C.1 C.2.1 hd (k H locs ls hP hS hl)
theorem cv_ior (C : cv_Cx X Y own cc nL d) {pc' : Nat} (hp : pc + 1 = pc') {x y : Int32} (hd : decode cc pc = .ok (.ior, 1)) (k : cv_At X Y nL σ pc' lv (.int (x ||| y) :: st)) : cv_At X Y nL σ pc lv (.int y :: .int x :: st) := by
  subst hp
  obtain ⟨p, l, e, R, s, m, args, below, meth, c, Q, D, A, cA⟩ := X
  obtain ⟨n, sh, cells, slots, a⟩ := Y
  intro H locs ls hP hS hl
  exact lv_ior C.1 C.2.1 hd (k H locs ls hP hS hl)
theorem cv_ixor (C : cv_Cx X Y own cc nL d) {pc' : Nat} (hp : pc + 1 = pc') {x y : Int32} (hd : decode cc pc = .ok (.ixor, 1)) (k : cv_At X Y nL σ pc' lv (.int (x ^^^ y) :: st)) : cv_At X Y nL σ pc lv (.int y :: .int x :: st) := by
  subst hp
  obtain ⟨p, l, e, R, s, m, args, below, meth, c, Q, D, A, cA⟩ := X
  obtain ⟨n, sh, cells, slots, a⟩ := Y
  intro H locs ls hP hS hl
  exact lv_ixor C.1 C.2.1 hd (k H locs ls hP hS hl)
theorem cv_ishl (C : cv_Cx X Y own cc nL d) {pc' : Nat} (hp : pc + 1 = pc') {x y : Int32} (hd : decode cc pc = .ok (.ishl, 1)) (k : cv_At X Y nL σ pc' lv (.int (x <<< (y &&& 31)) :: st)) : cv_At X Y nL σ pc lv (.int y :: .int x :: st) := by
  subst hp
  obtain ⟨p, l, e, R, s, m, args, below, meth, c, Q, D, A, cA⟩ := X
  obtain ⟨n, sh, cells, slots, a⟩ := Y
  intro H locs ls hP hS hl
  exact lv_ishl C.1 C.2.1 hd (k H locs ls hP hS hl)
theorem cv_ishr (C : cv_Cx X Y own cc nL d) {pc' : Nat} (hp : pc + 1 = pc') {x y : Int32} (hd : decode cc pc = .ok (.ishr, 1)) (k : cv_At X Y nL σ pc' lv (.int (x >>> (y &&& 31)) :: st)) : cv_At X Y nL σ pc lv (.int y :: .int x :: st) := by
  subst hp
  obtain ⟨p, l, e, R, s, m, args, below, meth, c, Q, D, A, cA⟩ := X
  obtain ⟨n, sh, cells, slots, a⟩ := Y
  intro H locs ls hP hS hl
  exact lv_ishr C.1 C.2.1 hd (k H locs ls hP hS hl)
theorem cv_idiv (C : cv_Cx X Y own cc nL d) {pc' : Nat} (hp : pc + 1 = pc') {x y : Int32} (hd : decode cc pc = .ok (.idiv, 1)) (hne : ¬ y = 0) (k : cv_At X Y nL σ pc' lv (.int (x / y) :: st)) : cv_At X Y nL σ pc lv (.int y :: .int x :: st) := by
  subst hp
  obtain ⟨p, l, e, R, s, m, args, below, meth, c, Q, D, A, cA⟩ := X
  obtain ⟨n, sh, cells, slots, a⟩ := Y
  intro H locs ls hP hS hl
  exact lv_idiv C.1 C.2.1 hd hne (k H locs ls hP hS hl)
theorem cv_irem (C : cv_Cx X Y own cc nL d) {pc' : Nat} (hp : pc + 1 = pc') {x y : Int32} (hd : decode cc pc = .ok (.irem, 1)) (hne : ¬ y = 0) (k : cv_At X Y nL σ pc' lv (.int (x - x / y * y) :: st)) : cv_At X Y nL σ pc lv (.int y :: .int x :: st) := by
  subst hp
  obtain ⟨p, l, e, R, s, m, args, below, meth, c, Q, D, A, cA⟩ := X
  obtain ⟨n, sh, cells, slots, a⟩ := Y
  intro H locs ls hP hS hl
  exact lv_irem C.1 C.2.1 hd hne (k H locs ls hP hS hl)
theorem cv_ldiv (C : cv_Cx X Y own cc nL d) {pc' : Nat} (hp : pc + 1 = pc') {x y : Int64} (hd : decode cc pc = .ok (.ldiv, 1)) (hne : ¬ y = 0) (k : cv_At X Y nL σ pc' lv (.long (x / y) :: st)) : cv_At X Y nL σ pc lv (.long y :: .long x :: st) := by
  subst hp
  obtain ⟨p, l, e, R, s, m, args, below, meth, c, Q, D, A, cA⟩ := X
  obtain ⟨n, sh, cells, slots, a⟩ := Y
  intro H locs ls hP hS hl
  exact lv_ldiv C.1 C.2.1 hd hne (k H locs ls hP hS hl)
theorem cv_lrem (C : cv_Cx X Y own cc nL d) {pc' : Nat} (hp : pc + 1 = pc') {x y : Int64} (hd : decode cc pc = .ok (.lrem, 1)) (hne : ¬ y = 0) (k : cv_At X Y nL σ pc' lv (.long (x - x / y * y) :: st)) : cv_At X Y nL σ pc lv (.long y :: .long x :: st) := by
  subst hp
  obtain ⟨p, l, e, R, s, m, args, below, meth, c, Q, D, A, cA⟩ := X
  obtain ⟨n, sh, cells, slots, a⟩ := Y
  intro H locs ls hP hS hl
  exact lv_lrem C.1 C.2.1 hd hne (k H locs ls hP hS hl)
theorem cv_iushr (C : cv_Cx X Y own cc nL d) {pc' : Nat} (hp : pc + 1 = pc') {x y v : Int32} (hd : decode cc pc = .ok (.iushr, 1)) (hv : (x.toUInt32 >>> (y.toUInt32 &&& Int32.toUInt32 31)).toInt32 = v) (k : cv_At X Y nL σ pc' lv (.int v :: st)) : cv_At X Y nL σ pc lv (.int y :: .int x :: st) := by
  subst hp
  obtain ⟨p, l, e, R, s, m, args, below, meth, c, Q, D, A, cA⟩ := X
  obtain ⟨n, sh, cells, slots, a⟩ := Y
  intro H locs ls hP hS hl
  exact lv_iushr C.1 C.2.1 hd hv (k H locs ls hP hS hl)
theorem cv_i2l (C : cv_Cx X Y own cc nL d) {pc' : Nat} (hp : pc + 1 = pc') {x : Int32} {v : Int64} (hd : decode cc pc = .ok (.i2l, 1)) (hv : x.toInt64 = v) (k : cv_At X Y nL σ pc' lv (.long v :: st)) : cv_At X Y nL σ pc lv (.int x :: st) := by
  subst hp
  obtain ⟨p, l, e, R, s, m, args, below, meth, c, Q, D, A, cA⟩ := X
  obtain ⟨n, sh, cells, slots, a⟩ := Y
  intro H locs ls hP hS hl
  exact lv_i2l C.1 C.2.1 hd hv (k H locs ls hP hS hl)
theorem cv_i2b (C : cv_Cx X Y own cc nL d) {pc' : Nat} (hp : pc + 1 = pc') {x v : Int32} (hd : decode cc pc = .ok (.i2b, 1)) (hv : x.toInt8.toInt32 = v) (k : cv_At X Y nL σ pc' lv (.int v :: st)) : cv_At X Y nL σ pc lv (.int x :: st) := by
  subst hp
  obtain ⟨p, l, e, R, s, m, args, below, meth, c, Q, D, A, cA⟩ := X
  obtain ⟨n, sh, cells, slots, a⟩ := Y
  intro H locs ls hP hS hl
  exact lv_i2b C.1 C.2.1 hd hv (k H locs ls hP hS hl)
theorem cv_i2s (C : cv_Cx X Y own cc nL d) {pc' : Nat} (hp : pc + 1 = pc') {x v : Int32} (hd : decode cc pc = .ok (.i2s, 1)) (hv : x.toInt16.toInt32 = v) (k : cv_At X Y nL σ pc' lv (.int v :: st)) : cv_At X Y nL σ pc lv (.int x :: st) := by
  subst hp
  obtain ⟨p, l, e, R, s, m, args, below, meth, c, Q, D, A, cA⟩ := X
  obtain ⟨n, sh, cells, slots, a⟩ := Y
  intro H locs ls hP hS hl
  exact lv_i2s C.1 C.2.1 hd hv (k H locs ls hP hS hl)
theorem cv_dup (C : cv_Cx X Y own cc nL d) {pc' : Nat} (hp : pc + 1 = pc') {va : Value} (hd : decode cc pc = .ok (.dup, 1)) (hc : va.category = 1) (k : cv_At X Y nL σ pc' lv (va :: va :: st)) : cv_At X Y nL σ pc lv (va :: st) := by
  subst hp
  obtain ⟨p, l, e, R, s, m, args, below, meth, c, Q, D, A, cA⟩ := X
  obtain ⟨n, sh, cells, slots, a⟩ := Y
  intro H locs ls hP hS hl
  exact lv_dup C.1 C.2.1 hd (by rw [cv_v_cat]; exact hc) (k H locs ls hP hS hl)
theorem cv_ldc2 (C : cv_Cx X Y own cc nL d) {pc' : Nat} (hp : pc + 3 = pc') {v : Int64} {i : Nat} (hw : Cond.constantLong own i v ∈ cv_BIG) (hd : decode cc pc = .ok (.ldc2_w i, 3)) (k : cv_At X Y nL σ pc' lv (.long v :: st)) : cv_At X Y nL σ pc lv st := by
  subst hp
  obtain ⟨p, l, e, R, s, m, args, below, meth, c, Q, D, A, cA⟩ := X
  obtain ⟨n, sh, cells, slots, a⟩ := Y
  intro H locs ls hP hS hl
  exact lv_ldc2 C.1 C.2.1 C.2.2.2.1 (C.2.2.2.2.1 _ hw) hd (k H locs ls hP hS hl)
theorem cv_ldcw (C : cv_Cx X Y own cc nL d) {pc' : Nat} (hp : pc + 3 = pc') {v : Int32} {i : Nat} (hw : Cond.constant own i v ∈ cv_BIG) (hd : decode cc pc = .ok (.ldc_w i, 3)) (k : cv_At X Y nL σ pc' lv (.int v :: st)) : cv_At X Y nL σ pc lv st := by
  subst hp
  obtain ⟨p, l, e, R, s, m, args, below, meth, c, Q, D, A, cA⟩ := X
  obtain ⟨n, sh, cells, slots, a⟩ := Y
  intro H locs ls hP hS hl
  exact lv_ldcw C.1 C.2.1 C.2.2.2.1 (C.2.2.2.2.1 _ hw) hd (k H locs ls hP hS hl)
theorem cv_goto (C : cv_Cx X Y own cc nL d) {off : Int} {tgt : Nat} (hd : decode cc pc = .ok (.goto off, 3)) (ht : (pc : Int) + off = (tgt : Int)) (k : cv_At X Y nL σ tgt lv st) : cv_At X Y nL σ pc lv st := by
  obtain ⟨p, l, e, R, s, m, args, below, meth, c, Q, D, A, cA⟩ := X
  obtain ⟨n, sh, cells, slots, a⟩ := Y
  intro H locs ls hP hS hl
  exact lv_goto C.1 C.2.1 hd ht (k H locs ls hP hS hl)
theorem cv_if_eq (C : cv_Cx X Y own cc nL d) {pc' : Nat} (hp : pc + 3 = pc') {x : Int32} {off : Int} {tgt : Nat} (hd : decode cc pc = .ok (.ifCond .eq off, 3)) (ht : (pc : Int) + off = (tgt : Int)) (kt : x = 0 → cv_At X Y nL σ tgt lv st) (kf : ¬ x = 0 → cv_At X Y nL σ pc' lv st) : cv_At X Y nL σ pc lv (.int x :: st) := by
  subst hp
  obtain ⟨p, l, e, R, s, m, args, below, meth, c, Q, D, A, cA⟩ := X
  obtain ⟨n, sh, cells, slots, a⟩ := Y
  intro H locs ls hP hS hl
  exact lv_if_eq C.1 C.2.1 hd ht (fun h => kt h H locs ls hP hS hl) (fun h => kf h H locs ls hP hS hl)
theorem cv_icmp_eq (C : cv_Cx X Y own cc nL d) {pc' : Nat} (hp : pc + 3 = pc') {x y : Int32} {off : Int} {tgt : Nat} (hd : decode cc pc = .ok (.if_icmp .eq off, 3)) (ht : (pc : Int) + off = (tgt : Int)) (kt : x = y → cv_At X Y nL σ tgt lv st) (kf : ¬ x = y → cv_At X Y nL σ pc' lv st) : cv_At X Y nL σ pc lv (.int y :: .int x :: st) := by
  subst hp
  obtain ⟨p, l, e, R, s, m, args, below, meth, c, Q, D, A, cA⟩ := X
  obtain ⟨n, sh, cells, slots, a⟩ := Y
  intro H locs ls hP hS hl
  exact lv_icmp_eq C.1 C.2.1 hd ht (fun h => kt h H locs ls hP hS hl) (fun h => kf h H locs ls hP hS hl)
theorem cv_if_ne (C : cv_Cx X Y own cc nL d) {pc' : Nat} (hp : pc + 3 = pc') {x : Int32} {off : Int} {tgt : Nat} (hd : decode cc pc = .ok (.ifCond .ne off, 3)) (ht : (pc : Int) + off = (tgt : Int)) (kt : ¬ x = 0 → cv_At X Y nL σ tgt lv st) (kf : x = 0 → cv_At X Y nL σ pc' lv st) : cv_At X Y nL σ pc lv (.int x :: st) := by
  subst hp
  obtain ⟨p, l, e, R, s, m, args, below, meth, c, Q, D, A, cA⟩ := X
  obtain ⟨n, sh, cells, slots, a⟩ := Y
  intro H locs ls hP hS hl
  exact lv_if_ne C.1 C.2.1 hd ht (fun h => kt h H locs ls hP hS hl) (fun h => kf h H locs ls hP hS hl)
theorem cv_icmp_ne (C : cv_Cx X Y own cc nL d) {pc' : Nat} (hp : pc + 3 = pc') {x y : Int32} {off : Int} {tgt : Nat} (hd : decode cc pc = .ok (.if_icmp .ne off, 3)) (ht : (pc : Int) + off = (tgt : Int)) (kt : ¬ x = y → cv_At X Y nL σ tgt lv st) (kf : x = y → cv_At X Y nL σ pc' lv st) : cv_At X Y nL σ pc lv (.int y :: .int x :: st) := by
  subst hp
  obtain ⟨p, l, e, R, s, m, args, below, meth, c, Q, D, A, cA⟩ := X
  obtain ⟨n, sh, cells, slots, a⟩ := Y
  intro H locs ls hP hS hl
  exact lv_icmp_ne C.1 C.2.1 hd ht (fun h => kt h H locs ls hP hS hl) (fun h => kf h H locs ls hP hS hl)
theorem cv_if_lt (C : cv_Cx X Y own cc nL d) {pc' : Nat} (hp : pc + 3 = pc') {x : Int32} {off : Int} {tgt : Nat} (hd : decode cc pc = .ok (.ifCond .lt off, 3)) (ht : (pc : Int) + off = (tgt : Int)) (kt : x < 0 → cv_At X Y nL σ tgt lv st) (kf : ¬ x < 0 → cv_At X Y nL σ pc' lv st) : cv_At X Y nL σ pc lv (.int x :: st) := by
  subst hp
  obtain ⟨p, l, e, R, s, m, args, below, meth, c, Q, D, A, cA⟩ := X
  obtain ⟨n, sh, cells, slots, a⟩ := Y
  intro H locs ls hP hS hl
  exact lv_if_lt C.1 C.2.1 hd ht (fun h => kt h H locs ls hP hS hl) (fun h => kf h H locs ls hP hS hl)
theorem cv_icmp_lt (C : cv_Cx X Y own cc nL d) {pc' : Nat} (hp : pc + 3 = pc') {x y : Int32} {off : Int} {tgt : Nat} (hd : decode cc pc = .ok (.if_icmp .lt off, 3)) (ht : (pc : Int) + off = (tgt : Int)) (kt : x < y → cv_At X Y nL σ tgt lv st) (kf : ¬ x < y → cv_At X Y nL σ pc' lv st) : cv_At X Y nL σ pc lv (.int y :: .int x :: st) := by
  subst hp
  obtain ⟨p, l, e, R, s, m, args, below, meth, c, Q, D, A, cA⟩ := X
  obtain ⟨n, sh, cells, slots, a⟩ := Y
  intro H locs ls hP hS hl
  exact lv_icmp_lt C.1 C.2.1 hd ht (fun h => kt h H locs ls hP hS hl) (fun h => kf h H locs ls hP hS hl)
theorem cv_if_ge (C : cv_Cx X Y own cc nL d) {pc' : Nat} (hp : pc + 3 = pc') {x : Int32} {off : Int} {tgt : Nat} (hd : decode cc pc = .ok (.ifCond .ge off, 3)) (ht : (pc : Int) + off = (tgt : Int)) (kt : 0 ≤ x → cv_At X Y nL σ tgt lv st) (kf : ¬ 0 ≤ x → cv_At X Y nL σ pc' lv st) : cv_At X Y nL σ pc lv (.int x :: st) := by
  subst hp
  obtain ⟨p, l, e, R, s, m, args, below, meth, c, Q, D, A, cA⟩ := X
  obtain ⟨n, sh, cells, slots, a⟩ := Y
  intro H locs ls hP hS hl
  exact lv_if_ge C.1 C.2.1 hd ht (fun h => kt h H locs ls hP hS hl) (fun h => kf h H locs ls hP hS hl)
theorem cv_icmp_ge (C : cv_Cx X Y own cc nL d) {pc' : Nat} (hp : pc + 3 = pc') {x y : Int32} {off : Int} {tgt : Nat} (hd : decode cc pc = .ok (.if_icmp .ge off, 3)) (ht : (pc : Int) + off = (tgt : Int)) (kt : y ≤ x → cv_At X Y nL σ tgt lv st) (kf : ¬ y ≤ x → cv_At X Y nL σ pc' lv st) : cv_At X Y nL σ pc lv (.int y :: .int x :: st) := by
  subst hp
  obtain ⟨p, l, e, R, s, m, args, below, meth, c, Q, D, A, cA⟩ := X
  obtain ⟨n, sh, cells, slots, a⟩ := Y
  intro H locs ls hP hS hl
  exact lv_icmp_ge C.1 C.2.1 hd ht (fun h => kt h H locs ls hP hS hl) (fun h => kf h H locs ls hP hS hl)
theorem cv_if_gt (C : cv_Cx X Y own cc nL d) {pc' : Nat} (hp : pc + 3 = pc') {x : Int32} {off : Int} {tgt : Nat} (hd : decode cc pc = .ok (.ifCond .gt off, 3)) (ht : (pc : Int) + off = (tgt : Int)) (kt : 0 < x → cv_At X Y nL σ tgt lv st) (kf : ¬ 0 < x → cv_At X Y nL σ pc' lv st) : cv_At X Y nL σ pc lv (.int x :: st) := by
  subst hp
  obtain ⟨p, l, e, R, s, m, args, below, meth, c, Q, D, A, cA⟩ := X
  obtain ⟨n, sh, cells, slots, a⟩ := Y
  intro H locs ls hP hS hl
  exact lv_if_gt C.1 C.2.1 hd ht (fun h => kt h H locs ls hP hS hl) (fun h => kf h H locs ls hP hS hl)
theorem cv_icmp_gt (C : cv_Cx X Y own cc nL d) {pc' : Nat} (hp : pc + 3 = pc') {x y : Int32} {off : Int} {tgt : Nat} (hd : decode cc pc = .ok (.if_icmp .gt off, 3)) (ht : (pc : Int) + off = (tgt : Int)) (kt : y < x → cv_At X Y nL σ tgt lv st) (kf : ¬ y < x → cv_At X Y nL σ pc' lv st) : cv_At X Y nL σ pc lv (.int y :: .int x :: st) := by
  subst hp
  obtain ⟨p, l, e, R, s, m, args, below, meth, c, Q, D, A, cA⟩ := X
  obtain ⟨n, sh, cells, slots, a⟩ := Y
  intro H locs ls hP hS hl
  exact lv_icmp_gt C.1 C.2.1 hd ht (fun h => kt h H locs ls hP hS hl) (fun h => kf h H locs ls hP hS hl)
theorem cv_if_le (C : cv_Cx X Y own cc nL d) {pc' : Nat} (hp : pc + 3 = pc') {x : Int32} {off : Int} {tgt : Nat} (hd : decode cc pc = .ok (.ifCond .le off, 3)) (ht : (pc : Int) + off = (tgt : Int)) (kt : x ≤ 0 → cv_At X Y nL σ tgt lv st) (kf : ¬ x ≤ 0 → cv_At X Y nL σ pc' lv st) : cv_At X Y nL σ pc lv (.int x :: st) := by
  subst hp
  obtain ⟨p, l, e, R, s, m, args, below, meth, c, Q, D, A, cA⟩ := X
  obtain ⟨n, sh, cells, slots, a⟩ := Y
  intro H locs ls hP hS hl
  exact lv_if_le C.1 C.2.1 hd ht (fun h => kt h H locs ls hP hS hl) (fun h => kf h H locs ls hP hS hl)
theorem cv_icmp_le (C : cv_Cx X Y own cc nL d) {pc' : Nat} (hp : pc + 3 = pc') {x y : Int32} {off : Int} {tgt : Nat} (hd : decode cc pc = .ok (.if_icmp .le off, 3)) (ht : (pc : Int) + off = (tgt : Int)) (kt : x ≤ y → cv_At X Y nL σ tgt lv st) (kf : ¬ x ≤ y → cv_At X Y nL σ pc' lv st) : cv_At X Y nL σ pc lv (.int y :: .int x :: st) := by
  subst hp
  obtain ⟨p, l, e, R, s, m, args, below, meth, c, Q, D, A, cA⟩ := X
  obtain ⟨n, sh, cells, slots, a⟩ := Y
  intro H locs ls hP hS hl
  exact lv_icmp_le C.1 C.2.1 hd ht (fun h => kt h H locs ls hP hS hl) (fun h => kf h H locs ls hP hS hl)
theorem cv_lookup (C : cv_Cx X Y own cc nL d) {dflt : Int} {ps : Array (Int × Int)} {len : Nat} {x : Int32} {off : Int} {tgt : Nat} (hd : decode cc pc = .ok (.lookupswitch dflt ps, len)) (hp : (ps.toList.zip (ps.toList.drop 1)).all (fun (a, next) => a.1 < next.1) = true) (ho : Op.lookupswitch.offset ps.toList dflt x.toInt = off) (ht : (pc : Int) + off = (tgt : Int)) (k : cv_At X Y nL σ tgt lv st) : cv_At X Y nL σ pc lv (.int x :: st) := by
  obtain ⟨p, l, e, R, s, m, args, below, meth, c, Q, D, A, cA⟩ := X
  obtain ⟨n, sh, cells, slots, a⟩ := Y
  intro H locs ls hP hS hl
  exact lv_lookup C.1 C.2.1 hd hp ho ht (k H locs ls hP hS hl)
theorem cv_tableOut (C : cv_Cx X Y own cc nL d) {dflt lo hi : Int} {offs : Array Int} {len : Nat} {x : Int32} {tgt : Nat} (hd : decode cc pc = .ok (.tableswitch dflt lo hi offs, len)) (h : x.toInt < lo ∨ hi < x.toInt) (ht : (pc : Int) + dflt = (tgt : Int)) (k : cv_At X Y nL σ tgt lv st) : cv_At X Y nL σ pc lv (.int x :: st) := by
  obtain ⟨p, l, e, R, s, m, args, below, meth, c, Q, D, A, cA⟩ := X
  obtain ⟨n, sh, cells, slots, a⟩ := Y
  intro H locs ls hP hS hl
  exact lv_tableOut C.1 C.2.1 hd h ht (k H locs ls hP hS hl)
theorem cv_tableIn (C : cv_Cx X Y own cc nL d) {dflt lo hi : Int} {offs : Array Int} {len : Nat} {x : Int32} {off : Int} {tgt : Nat} (hd : decode cc pc = .ok (.tableswitch dflt lo hi offs, len)) (h1 : ¬ x.toInt < lo) (h2 : ¬ hi < x.toInt) (ho : offs[(x.toInt - lo).toNat]? = some off) (ht : (pc : Int) + off = (tgt : Int)) (k : cv_At X Y nL σ tgt lv st) : cv_At X Y nL σ pc lv (.int x :: st) := by
  obtain ⟨p, l, e, R, s, m, args, below, meth, c, Q, D, A, cA⟩ := X
  obtain ⟨n, sh, cells, slots, a⟩ := Y
  intro H locs ls hP hS hl
  exact lv_tableIn C.1 C.2.1 hd h1 h2 ho ht (k H locs ls hP hS hl)
theorem cv_eqp {pc' : Nat} (h : pc' = pc) (k : cv_At X Y nL σ pc' lv st) : cv_At X Y nL σ pc lv st := h ▸ k
theorem cv_pick (ks : List Nat) (h : lv_pick lv ks = lv') (k : cv_At X Y nL σ pc lv' st) : cv_At X Y nL σ pc lv st := by
  obtain ⟨p, l, e, R, s, m, args, below, meth, c, Q, D, A, cA⟩ := X
  obtain ⟨n, sh, cells, slots, a⟩ := Y
  intro H locs ls hP hS hl
  exact k H locs ls hP hS (lv_sub hl ks (by
    subst h
    simp only [lv_pick, cv_lm, List.map_filterMap, List.getElem?_map]))
/-- long compare -/
theorem cv_lcmp (C : cv_Cx X Y own cc nL d) {pc' : Nat} (hp : pc + 1 = pc') {x y : Int64} (hd : decode cc pc = .ok (.lcmp, 1)) (k : cv_At X Y nL σ pc' lv (.int (lg_cmp x y) :: st)) : cv_At X Y nL σ pc lv (.long y :: .long x :: st) := by
  subst hp
  obtain ⟨p, l, e, R, s, m, args, below, meth, c, Q, D, A, cA⟩ := X
  obtain ⟨n, sh, cells, slots, a⟩ := Y
  intro H locs ls hP hS hl
  exact W.lcmp C.1 C.2.1 hd (k H locs ls hP hS hl)
variable {n : Nat} {sh : Nat → cv_Sh} {cells slots : Nat} {a : Nat → Nat} {C0 : String} {T : u_T} {N ci idx i k0 : Nat} {fl : List (Option Nat)}
theorem cv_get (C : cv_Cx X (n, sh, cells, slots, a) own cc nL d) {pc' : Nat} (hp : pc + 3 = pc') (hk : k0 < n) (hs : sh k0 = .inl (ci, fl)) (hc : cv_cl[ci]? = some (C0, T, N)) (hi : i < N) {o : Option Nat} (hf : fl[i]? = some o) (hin : ∀ w ∈ u_ws C0 T N, w ∈ cv_BIG) (hw : Cond.fieldLink own idx (T i).1 (T i).2.1 (T i).2.2.1 ∈ cv_BIG) (hd : decode cc pc = .ok (.getfield idx, 3)) {v : Value} (hv : (match o with | none => Value.int (σ k0 i) | some j => Value.ref j) = v) (k : cv_At X (n, sh, cells, slots, a) nL σ pc' lv (v :: st)) : cv_At X (n, sh, cells, slots, a) nL σ pc lv (.ref k0 :: st) := by
  subst hp
  obtain ⟨p, l, e, R, s, m, args, below, meth, c, Q, D, A, cA⟩ := X
  intro H locs ls hP hS hl
  have he := cv_wl_at (sh := sh) (cA := cA) (a := a) (σ := σ) hk
  rw [hs] at he
  refine va_get (D := D) (ci := ci) (C := C0) (T := T) (N := N) (v := cv_v a v) C.1 C.2.1 C.2.2.2.2.1 hin C.2.2.2.1 C.2.2.2.2.2.1 hP k0 he hc i hi (C.2.2.2.2.1 _ hw) (fun _ h => h) ?_ hd (k H locs ls hP hS hl)
  rw [cv_fs_at hf, ← hv]
  cases o <;> rfl
theorem cv_put (C : cv_Cx X (n, sh, cells, slots, a) own cc nL d) {pc' : Nat} (hp : pc + 3 = pc') (hk : k0 < n) (hs : sh k0 = .inl (ci, fl)) (hc : cv_cl[ci]? = some (C0, T, N)) (hi : i < N) (hf : fl[i]? = some none) (hin : ∀ w ∈ u_ws C0 T N, w ∈ cv_BIG) (ty0 : Nat → FieldType) (hty : ∀ k, k < N → parseFieldDescriptor (T k).2.2.1 = some (ty0 k)) (hnm : ∀ a, a < N → ∀ b, b < N → a ≠ b → (T a).2.1 ≠ (T b).2.1) (hw : Cond.fieldLink own idx (T i).1 (T i).2.1 (T i).2.2.1 ∈ cv_BIG) (hfin : (T i).2.2.2 = false) {v : Int32} (hn : narrow (ty0 i) (.int v) = .int v) (hfit : fits (ty0 i) (.int v) = true) (hd : decode cc pc = .ok (.putfield idx, 3)) (k : cv_At X (n, sh, cells, slots, a) nL (cv_u σ k0 i v) pc' lv st) : cv_At X (n, sh, cells, slots, a) nL σ pc lv (.int v :: .ref k0 :: st) := by
  subst hp
  obtain ⟨p, l, e, R, s, m, args, below, meth, c, Q, D, A, cA⟩ := X
  intro H locs ls hP hS hl
  have he := cv_wl_at (sh := sh) (cA := cA) (a := a) (σ := σ) hk
  rw [hs] at he
  refine va_put (D := D) (ci := ci) (C := C0) (T := T) (N := N) (v := .int v) (ty := ty0 i) C.1 C.2.1 C.2.2.2.2.1 hin ty0 hty hnm C.2.2.2.1 C.2.2.2.2.2.1 hP (cv_D_any σ C.2.2.2.2.2.2.1) hS k0 he hc i hi (C.2.2.2.2.1 _ hw) (fun _ h => h) hfin (hty i hi) hn hfit (by rw [List.length_mapIdx]; exact (List.getElem?_eq_some_iff.mp hf).1) hd (fun H1 locs1 hP1 hD1 hS1 => ?_)
  refine k H1 locs1 ls ?_ hS1 hl
  rw [cv_fs_set hf] at hP1
  rw [cv_wl_set (f := upd (σ k0) i v) hk (by rw [hs]; rfl)] at hP1
  exact hP1
theorem cv_iald (C : cv_Cx X (n, sh, cells, slots, a) own cc nL d) {pc' : Nat} (hp : pc + 1 = pc') (hk : k0 < n) {n0 : Nat} (hs : sh k0 = .inr (.inl n0)) {j : Nat} {x v : Int32} (hx : x = nI j) (hj : j < n0) (hn0 : n0 < 2 ^ 31) (hd : decode cc pc = .ok (.iaload, 1)) (hv : σ k0 j = v) (k : cv_At X (n, sh, cells, slots, a) nL σ pc' lv (.int v :: st)) : cv_At X (n, sh, cells, slots, a) nL σ pc lv (.int x :: .ref k0 :: st) := by
  subst hp
  obtain ⟨p, l, e, R, s, m, args, below, meth, c, Q, D, A, cA⟩ := X
  intro H locs ls hP hS hl
  subst hx; subst hv
  have he := cv_wl_at (sh := sh) (cA := cA) (a := a) (σ := σ) hk
  rw [hs] at he
  refine va_iald C.1 C.2.1 C.2.2.2.2.2.1 hP k0 0 he rfl (vp_in_nI hj hn0) hd ?_
  rw [nI_clamp (Nat.lt_trans hj hn0)]
  exact k H locs ls hP hS hl
theorem cv_iast (C : cv_Cx X (n, sh, cells, slots, a) own cc nL d) {pc' : Nat} (hp : pc + 1 = pc') (hk : k0 < n) {n0 : Nat} (hs : sh k0 = .inr (.inl n0)) {j : Nat} {x v : Int32} (hx : x = nI j) (hj : j < n0) (hn0 : n0 < 2 ^ 31) (hd : decode cc pc = .ok (.iastore, 1)) (k : cv_At X (n, sh, cells, slots, a) nL (cv_u σ k0 j v) pc' lv st) : cv_At X (n, sh, cells, slots, a) nL σ pc lv (.int v :: .int x :: .ref k0 :: st) := by
  subst hp
  obtain ⟨p, l, e, R, s, m, args, below, meth, c, Q, D, A, cA⟩ := X
  intro H locs ls hP hS hl
  subst hx
  have he := cv_wl_at (sh := sh) (cA := cA) (a := a) (σ := σ) hk
  rw [hs] at he
  refine va_iast C.1 C.2.1 C.2.2.2.2.2.1 hP (cv_D_any σ C.2.2.2.2.2.2.1) hS k0 0 he rfl (vp_in_nI hj hn0) hd (fun H1 locs1 hP1 hD1 hS1 => ?_)
  refine k H1 locs1 ls ?_ hS1 hl
  rw [nI_clamp (Nat.lt_trans hj hn0)] at hP1
  rw [cv_wl_set (f := upd (σ k0) j v) hk (by rw [hs]; rfl)] at hP1
  exact hP1
theorem cv_aald (C : cv_Cx X (n, sh, cells, slots, a) own cc nL d) {pc' : Nat} (hp : pc + 1 = pc') (hk : k0 < n) {t : Nat} {l0 : List Nat} (hs : sh k0 = .inr (.inr (t, l0))) {E : String} (ht : (cv_tys (fun q => q))[t]? = some (t, .object E)) {j r : Nat} {x : Int32} (hx : x = nI j) (hj : l0[j]? = some r) (hn0 : l0.length < 2 ^ 31) (hd : decode cc pc = .ok (.aaload, 1)) (k : cv_At X (n, sh, cells, slots, a) nL σ pc' lv (.ref r :: st)) : cv_At X (n, sh, cells, slots, a) nL σ pc lv (.int x :: .ref k0 :: st) := by
  subst hp
  obtain ⟨p, l, e, R, s, m, args, below, meth, c, Q, D, A, cA⟩ := X
  intro H locs ls hP hS hl
  subst hx
  have hj' : j < l0.length := (List.getElem?_eq_some_iff.mp hj).1
  have he := cv_wl_at (sh := sh) (cA := cA) (a := a) (σ := σ) hk
  rw [hs] at he
  have ht' : (cv_tys cA)[t]? = some (cA t, .object E) := by
    match t, ht with
    | 0, h => simp [cv_tys] at h
    | 1, h => simp [cv_tys] at h ⊢; exact h
    | 2, h => simp [cv_tys] at h ⊢; exact h
    | t + 3, h => simp [cv_tys] at h
  refine va_aldq C.1 C.2.1 C.2.2.2.2.2.1 hP k0 t he ht' (vp_in_nI hj' hn0) hd ?_
  rw [nI_clamp (Nat.lt_trans hj' hn0), hj]
  exact k H locs ls hP hS hl
/-- returns -/
theorem cv_iret {ty : FieldType} {mc ms : Nat} {Qa : Option Value → cv_St → Prop} (C : cv_Cx X (n, sh, cells, slots, a) own cc nL d) (Rt : cv_Rt X (n, sh, cells, slots, a) (some ty) mc ms Qa) {v : Int32} (hn : narrow ty (.int v) = .int v) (hd : decode cc pc = .ok (.ireturn, 1)) (hq : Qa (some (.int v)) σ) : cv_At X (n, sh, cells, slots, a) nL σ pc lv [.int v] := by
  obtain ⟨p, l, e, R, s, m, args, below, meth, c, Q, D, A, cA⟩ := X
  obtain ⟨hr, hlk, h1, h2, rfl⟩ := Rt
  intro H locs ls hP hS hl
  refine W.widen (k := mc) (n := ms) h1 h2 ?_
  exact W.zret C.1 C.2.1 hr hn (fun t ht hW => ⟨⟨some (.int v), σ, rfl, hq, by rw [ht]; exact hP⟩, hS.F ht⟩) hS.2.2 hd (hlocks := hlk)
theorem cv_lret {mc ms : Nat} {Qa : Option Value → cv_St → Prop} (C : cv_Cx X (n, sh, cells, slots, a) own cc nL d) (Rt : cv_Rt X (n, sh, cells, slots, a) (some .long) mc ms Qa) {v : Int64} (hd : decode cc pc = .ok (.lreturn, 1)) (hq : Qa (some (.long v)) σ) : cv_At X (n, sh, cells, slots, a) nL σ pc lv [.long v] := by
  obtain ⟨p, l, e, R, s, m, args, below, meth, c, Q, D, A, cA⟩ := X
  obtain ⟨hr, hlk, h1, h2, rfl⟩ := Rt
  intro H locs ls hP hS hl
  refine W.widen (k := mc) (n := ms) h1 h2 ?_
  exact W.lret C.1 C.2.1 hr (fun t ht hW => ⟨⟨some (.long v), σ, rfl, hq, by rw [ht]; exact hP⟩, hS.F ht⟩) hS.2.2 hd (hlocks := hlk)
theorem cv_vret {mc ms : Nat} {Qa : Option Value → cv_St → Prop} (C : cv_Cx X (n, sh, cells, slots, a) own cc nL d) (Rt : cv_Rt X (n, sh, cells, slots, a) none mc ms Qa) (hd : decode cc pc = .ok (.return_, 1)) (hq : Qa none σ) : cv_At X (n, sh, cells, slots, a) nL σ pc lv [] := by
  obtain ⟨p, l, e, R, s, m, args, below, meth, c, Q, D, A, cA⟩ := X
  obtain ⟨hr, hlk, h1, h2, rfl⟩ := Rt
  intro H locs ls hP hS hl
  refine W.widen (k := mc) (n := ms) h1 h2 ?_
  exact W.vret C.1 C.2.1 hr (fun t ht hW => ⟨⟨none, σ, rfl, hq, by rw [ht]; exact hP⟩, hS.F ht⟩) hS.2.2 hd (hlocks := hlk)
end CVR
