/-! ===== values by views: numbers nI, truth cv_b, perhaps a number cv_o ===== -/
def cv_b (b : Bool) : Int32 := if b = true then 1 else 0
def cv_o (o : Option Nat) : Int32 := match o with
  | none => -9
  | some n => nI n
theorem cv_b_t : cv_b true = 1 := rfl
theorem cv_b_f : cv_b false = 0 := rfl
theorem cv_bz0 {b : Bool} : cv_b b = 0 ↔ b = false := by cases b <;> decide
theorem cv_bz1 {b : Bool} : cv_b b = 1 ↔ b = true := by cases b <;> decide
theorem cv_b_nar (b : Bool) : narrow .boolean (.int (cv_b b)) = .int (cv_b b) := by cases b <;> decide
theorem nI_1' : nI 1 = 1 := by decide
theorem cv_m9 {n : Nat} (h : n < 2 ^ 31) : ¬ nI n = -9 := by
  intro e
  have h1 := congrArg Int32.toInt e
  rw [nI_toInt h] at h1
  have h2 : (-9 : Int32).toInt = -9 := by decide
  omega
theorem cv_o_none {o : Option Nat} (h : ∀ n, o = some n → n < 2 ^ 31) : cv_o o = -9 ↔ o = none := by
  cases o with
  | none => simp [cv_o]
  | some n => simp [cv_o, cv_m9 (h n rfl)]
theorem cv_sl : ∀ n, n < 32 → ((nI n &&& 31).toBitVec.smod 32).toNat = n := by decide +kernel
theorem cv_shrN {t i : Nat} (ht : t < 2 ^ 31) (hi : i < 32) : nI t >>> (nI i &&& 31) = nI (t / 2 ^ i) := pk_shrN ht _ i (cv_sl i hi)
theorem cv_shlN {t i : Nat} (hi : i < 32) (h : t * 2 ^ i < 2 ^ 32) : nI t <<< (nI i &&& 31) = nI (t * 2 ^ i) := pk_shlN _ i (cv_sl i hi) h
theorem cv_shl1 {i : Nat} (hi : i < 32) : nI 1 <<< (nI i &&& 31) = nI (2 ^ i) := by
  have h : 2 ^ i < 2 ^ 32 := Nat.pow_lt_pow_right (by decide) hi
  rw [cv_shlN hi (by omega), Nat.one_mul]
theorem cv_nIb (n : Nat) : (nI n).toBitVec = BitVec.ofNat 32 n := rfl
theorem cv_andN (a b : Nat) : nI a &&& nI b = nI (a &&& b) := by
  apply Int32.toBitVec_inj.mp
  rw [Int32.toBitVec_and, cv_nIb, cv_nIb, cv_nIb, BitVec.ofNat_and]
theorem cv_orN (a b : Nat) : nI a ||| nI b = nI (a ||| b) := by
  apply Int32.toBitVec_inj.mp
  rw [Int32.toBitVec_or, cv_nIb, cv_nIb, cv_nIb, BitVec.ofNat_or]
theorem cv_xorN (a b : Nat) : nI a ^^^ nI b = nI (a ^^^ b) := by
  apply Int32.toBitVec_inj.mp
  rw [Int32.toBitVec_xor, cv_nIb, cv_nIb, cv_nIb, BitVec.ofNat_xor]
theorem cv_tb (t i : Nat) : t / 2 ^ i &&& 1 = if t.testBit i = true then 1 else 0 := by
  rw [Nat.testBit_eq_decide_div_mod_eq, Nat.and_one_is_mod]
  rcases Nat.mod_two_eq_zero_or_one (t / 2 ^ i) with h | h <;> simp [h]
theorem cv_tb0 {t i : Nat} (h : t / 2 ^ i &&& 1 = 0) : t.testBit i = false := by
  rw [cv_tb] at h
  cases hb : t.testBit i with
  | false => rfl
  | true => rw [hb] at h; exact absurd h (by decide)
theorem cv_tb1 {t i : Nat} (h : t / 2 ^ i &&& 1 ≠ 0) : t.testBit i = true := by
  rw [cv_tb] at h
  cases hb : t.testBit i with
  | true => rfl
  | false => rw [hb] at h; exact absurd rfl h
theorem cv_tb_lt (t i : Nat) : t / 2 ^ i &&& 1 < 2 := by rw [cv_tb]; split <;> decide
/-- a day that goes down: behind day 0 comes -1 -/
def cv_dn : Nat → Int32
  | 0 => -1
  | j + 1 => nI j
theorem cv_dn_dec (j : Nat) : nI j + Int32.ofInt (-1) = cv_dn j := by
  cases j with
  | zero => decide
  | succ j => exact pk_m1 j
section CVV
variable {X : cv_X} {Y : cv_Y} {own : String} {cc : ByteArray} {nL d : Nat} {σ : cv_St} {pc : Nat} {lv lv' : List (Nat × Value)} {st : List Value}
theorem cv_iaddN (C : cv_Cx X Y own cc nL d) {pc' : Nat} (hp : pc + 1 = pc') {x y : Nat} (hd : decode cc pc = .ok (.iadd, 1)) (k : cv_At X Y nL σ pc' lv (.int (nI (x + y)) :: st)) : cv_At X Y nL σ pc lv (.int (nI y) :: .int (nI x) :: st) := cv_iadd C hp hd (by rw [nI_add]; exact k)
theorem cv_isubN (C : cv_Cx X Y own cc nL d) {pc' : Nat} (hp : pc + 1 = pc') {x y : Nat} (h : y ≤ x) (hd : decode cc pc = .ok (.isub, 1)) (k : cv_At X Y nL σ pc' lv (.int (nI (x - y)) :: st)) : cv_At X Y nL σ pc lv (.int (nI y) :: .int (nI x) :: st) := cv_isub C hp hd (by rw [pk_sub h]; exact k)
theorem cv_imulN (C : cv_Cx X Y own cc nL d) {pc' : Nat} (hp : pc + 1 = pc') {x y : Nat} (hd : decode cc pc = .ok (.imul, 1)) (k : cv_At X Y nL σ pc' lv (.int (nI (x * y)) :: st)) : cv_At X Y nL σ pc lv (.int (nI y) :: .int (nI x) :: st) := cv_imul C hp hd (by rw [pk_mul]; exact k)
theorem cv_idivN (C : cv_Cx X Y own cc nL d) {pc' : Nat} (hp : pc + 1 = pc') {x y : Nat} (hx : x < 2 ^ 31) (h0 : 0 < y) (hy : y < 2 ^ 31) (hd : decode cc pc = .ok (.idiv, 1)) (k : cv_At X Y nL σ pc' lv (.int (nI (x / y)) :: st)) : cv_At X Y nL σ pc lv (.int (nI y) :: .int (nI x) :: st) := cv_idiv C hp hd (nI_ne0 h0 hy) (by rw [pk_div hx h0 hy]; exact k)
theorem cv_iremN (C : cv_Cx X Y own cc nL d) {pc' : Nat} (hp : pc + 1 = pc') {x y : Nat} (hx : x < 2 ^ 31) (h0 : 0 < y) (hy : y < 2 ^ 31) (hd : decode cc pc = .ok (.irem, 1)) (k : cv_At X Y nL σ pc' lv (.int (nI (x % y)) :: st)) : cv_At X Y nL σ pc lv (.int (nI y) :: .int (nI x) :: st) := cv_irem C hp hd (nI_ne0 h0 hy) (by rw [pk_rem hx h0 hy]; exact k)
theorem cv_iincN (C : cv_Cx X Y own cc nL d) {pc' : Nat} (hp : pc + 3 = pc') {i j : Nat} {x : Nat} (hd : decode cc pc = .ok (.iinc i 1, 3)) (hj : lv[j]? = some (i, .int (nI x))) (hn : i < nL) (hl' : (i, Value.int (nI (x + 1))) :: lv.filter (fun q => !(q.1 == i) && !(q.1 + 1 == i && q.2.category == 2)) = lv') (k : cv_At X Y nL σ pc' lv' st) : cv_At X Y nL σ pc lv st := cv_iinc C hp hd hj (nI_succ x).symm hn hl' k
theorem cv_iandN (C : cv_Cx X Y own cc nL d) {pc' : Nat} (hp : pc + 1 = pc') {x y : Nat} (hd : decode cc pc = .ok (.iand, 1)) (k : cv_At X Y nL σ pc' lv (.int (nI (x &&& y)) :: st)) : cv_At X Y nL σ pc lv (.int (nI y) :: .int (nI x) :: st) := cv_iand C hp hd (by rw [cv_andN]; exact k)
theorem cv_iorN (C : cv_Cx X Y own cc nL d) {pc' : Nat} (hp : pc + 1 = pc') {x y : Nat} (hd : decode cc pc = .ok (.ior, 1)) (k : cv_At X Y nL σ pc' lv (.int (nI (x ||| y)) :: st)) : cv_At X Y nL σ pc lv (.int (nI y) :: .int (nI x) :: st) := cv_ior C hp hd (by rw [cv_orN]; exact k)
theorem cv_ishrN (C : cv_Cx X Y own cc nL d) {pc' : Nat} (hp : pc + 1 = pc') {x y : Nat} (hx : x < 2 ^ 31) (hy : y < 32) (hd : decode cc pc = .ok (.ishr, 1)) (k : cv_At X Y nL σ pc' lv (.int (nI (x / 2 ^ y)) :: st)) : cv_At X Y nL σ pc lv (.int (nI y) :: .int (nI x) :: st) := cv_ishr C hp hd (by rw [cv_shrN hx hy]; exact k)
theorem cv_ishl1 (C : cv_Cx X Y own cc nL d) {pc' : Nat} (hp : pc + 1 = pc') {y : Nat} (hy : y < 32) (hd : decode cc pc = .ok (.ishl, 1)) (k : cv_At X Y nL σ pc' lv (.int (nI (2 ^ y)) :: st)) : cv_At X Y nL σ pc lv (.int (nI y) :: .int (nI 1) :: st) := cv_ishl C hp hd (by rw [cv_shl1 hy]; exact k)
/-- another name for the top of the stack -/
theorem cv_top {v w : Int32} (h : v = w) (k : cv_At X Y nL σ pc lv (.int w :: st)) : cv_At X Y nL σ pc lv (.int v :: st) := h ▸ k
theorem cv_top2 {v w u : Int32} (h : v = w) (k : cv_At X Y nL σ pc lv (.int u :: .int w :: st)) : cv_At X Y nL σ pc lv (.int u :: .int v :: st) := h ▸ k
theorem cv_icmp_eqN (C : cv_Cx X Y own cc nL d) {pc' : Nat} (hp : pc + 3 = pc') {x y : Nat} (hx : x < 2 ^ 31) (hy : y < 2 ^ 31) {off : Int} {tgt : Nat} (hd : decode cc pc = .ok (.if_icmp .eq off, 3)) (ht : (pc : Int) + off = (tgt : Int)) (kt : x = y → cv_At X Y nL σ tgt lv st) (kf : x ≠ y → cv_At X Y nL σ pc' lv st) : cv_At X Y nL σ pc lv (.int (nI y) :: .int (nI x) :: st) := cv_icmp_eq C hp hd ht (fun h => kt ((nI_eq hx hy).mp h)) (fun h => kf (fun e => h (by rw [e])))
theorem cv_icmp_neN (C : cv_Cx X Y own cc nL d) {pc' : Nat} (hp : pc + 3 = pc') {x y : Nat} (hx : x < 2 ^ 31) (hy : y < 2 ^ 31) {off : Int} {tgt : Nat} (hd : decode cc pc = .ok (.if_icmp .ne off, 3)) (ht : (pc : Int) + off = (tgt : Int)) (kt : x ≠ y → cv_At X Y nL σ tgt lv st) (kf : x = y → cv_At X Y nL σ pc' lv st) : cv_At X Y nL σ pc lv (.int (nI y) :: .int (nI x) :: st) := cv_icmp_ne C hp hd ht (fun h => kt (fun e => h (by rw [e]))) (fun h => kf ((nI_eq hx hy).mp h))
theorem cv_icmp_ltN (C : cv_Cx X Y own cc nL d) {pc' : Nat} (hp : pc + 3 = pc') {x y : Nat} (hx : x < 2 ^ 31) (hy : y < 2 ^ 31) {off : Int} {tgt : Nat} (hd : decode cc pc = .ok (.if_icmp .lt off, 3)) (ht : (pc : Int) + off = (tgt : Int)) (kt : x < y → cv_At X Y nL σ tgt lv st) (kf : y ≤ x → cv_At X Y nL σ pc' lv st) : cv_At X Y nL σ pc lv (.int (nI y) :: .int (nI x) :: st) := cv_icmp_lt C hp hd ht (fun h => kt ((nI_ltI hx hy).mp h)) (fun h => kf (Nat.not_lt.mp (fun e => h ((nI_ltI hx hy).mpr e))))
theorem cv_icmp_geN (C : cv_Cx X Y own cc nL d) {pc' : Nat} (hp : pc + 3 = pc') {x y : Nat} (hx : x < 2 ^ 31) (hy : y < 2 ^ 31) {off : Int} {tgt : Nat} (hd : decode cc pc = .ok (.if_icmp .ge off, 3)) (ht : (pc : Int) + off = (tgt : Int)) (kt : y ≤ x → cv_At X Y nL σ tgt lv st) (kf : x < y → cv_At X Y nL σ pc' lv st) : cv_At X Y nL σ pc lv (.int (nI y) :: .int (nI x) :: st) := cv_icmp_ge C hp hd ht (fun h => kt ((nI_leI hy hx).mp h)) (fun h => kf (Nat.not_le.mp (fun e => h ((nI_leI hy hx).mpr e))))
theorem cv_icmp_gtN (C : cv_Cx X Y own cc nL d) {pc' : Nat} (hp : pc + 3 = pc') {x y : Nat} (hx : x < 2 ^ 31) (hy : y < 2 ^ 31) {off : Int} {tgt : Nat} (hd : decode cc pc = .ok (.if_icmp .gt off, 3)) (ht : (pc : Int) + off = (tgt : Int)) (kt : y < x → cv_At X Y nL σ tgt lv st) (kf : x ≤ y → cv_At X Y nL σ pc' lv st) : cv_At X Y nL σ pc lv (.int (nI y) :: .int (nI x) :: st) := cv_icmp_gt C hp hd ht (fun h => kt ((nI_ltI hy hx).mp h)) (fun h => kf (Nat.not_lt.mp (fun e => h ((nI_ltI hy hx).mpr e))))
theorem cv_icmp_leN (C : cv_Cx X Y own cc nL d) {pc' : Nat} (hp : pc + 3 = pc') {x y : Nat} (hx : x < 2 ^ 31) (hy : y < 2 ^ 31) {off : Int} {tgt : Nat} (hd : decode cc pc = .ok (.if_icmp .le off, 3)) (ht : (pc : Int) + off = (tgt : Int)) (kt : x ≤ y → cv_At X Y nL σ tgt lv st) (kf : y < x → cv_At X Y nL σ pc' lv st) : cv_At X Y nL σ pc lv (.int (nI y) :: .int (nI x) :: st) := cv_icmp_le C hp hd ht (fun h => kt ((nI_leI hx hy).mp h)) (fun h => kf (Nat.not_le.mp (fun e => h ((nI_leI hx hy).mpr e))))
theorem cv_if_eqN (C : cv_Cx X Y own cc nL d) {pc' : Nat} (hp : pc + 3 = pc') {x : Nat} (hx : x < 2 ^ 31) {off : Int} {tgt : Nat} (hd : decode cc pc = .ok (.ifCond .eq off, 3)) (ht : (pc : Int) + off = (tgt : Int)) (kt : x = 0 → cv_At X Y nL σ tgt lv st) (kf : 0 < x → cv_At X Y nL σ pc' lv st) : cv_At X Y nL σ pc lv (.int (nI x) :: st) := cv_if_eq C hp hd ht (fun h => kt (by rcases Nat.eq_zero_or_pos x with e | e; exact e; exact absurd h (nI_ne0 e hx))) (fun h => kf (by rcases Nat.eq_zero_or_pos x with e | e; exact absurd (by rw [e]; exact nI_0) h; exact e))
theorem cv_if_neN (C : cv_Cx X Y own cc nL d) {pc' : Nat} (hp : pc + 3 = pc') {x : Nat} (hx : x < 2 ^ 31) {off : Int} {tgt : Nat} (hd : decode cc pc = .ok (.ifCond .ne off, 3)) (ht : (pc : Int) + off = (tgt : Int)) (kt : 0 < x → cv_At X Y nL σ tgt lv st) (kf : x = 0 → cv_At X Y nL σ pc' lv st) : cv_At X Y nL σ pc lv (.int (nI x) :: st) := cv_if_ne C hp hd ht (fun h => kt (by rcases Nat.eq_zero_or_pos x with e | e; exact absurd (by rw [e]; exact nI_0) h; exact e)) (fun h => kf (by rcases Nat.eq_zero_or_pos x with e | e; exact e; exact absurd h (nI_ne0 e hx)))
theorem cv_if_eqB (C : cv_Cx X Y own cc nL d) {pc' : Nat} (hp : pc + 3 = pc') {b : Bool} {off : Int} {tgt : Nat} (hd : decode cc pc = .ok (.ifCond .eq off, 3)) (ht : (pc : Int) + off = (tgt : Int)) (kt : b = false → cv_At X Y nL σ tgt lv st) (kf : b = true → cv_At X Y nL σ pc' lv st) : cv_At X Y nL σ pc lv (.int (cv_b b) :: st) := cv_if_eq C hp hd ht (fun h => kt (cv_bz0.mp h)) (fun h => kf (by cases b; exact absurd rfl h; rfl))
theorem cv_if_neB (C : cv_Cx X Y own cc nL d) {pc' : Nat} (hp : pc + 3 = pc') {b : Bool} {off : Int} {tgt : Nat} (hd : decode cc pc = .ok (.ifCond .ne off, 3)) (ht : (pc : Int) + off = (tgt : Int)) (kt : b = true → cv_At X Y nL σ tgt lv st) (kf : b = false → cv_At X Y nL σ pc' lv st) : cv_At X Y nL σ pc lv (.int (cv_b b) :: st) := cv_if_ne C hp hd ht (fun h => kt (by cases b; exact absurd rfl h; rfl)) (fun h => kf (cv_bz0.mp h))
theorem cv_icmp_eqO (C : cv_Cx X Y own cc nL d) {pc' : Nat} (hp : pc + 3 = pc') {o : Option Nat} (ho : ∀ z, o = some z → z < 2 ^ 31) {off : Int} {tgt : Nat} (hd : decode cc pc = .ok (.if_icmp .eq off, 3)) (ht : (pc : Int) + off = (tgt : Int)) (kt : o = none → cv_At X Y nL σ tgt lv st) (kf : ∀ z, o = some z → cv_At X Y nL σ pc' lv st) : cv_At X Y nL σ pc lv (.int (-9) :: .int (cv_o o) :: st) := cv_icmp_eq C hp hd ht (fun h => kt ((cv_o_none ho).mp h)) (fun h => by
  cases hz : o with
  | none => exact absurd (by rw [hz]; rfl) h
  | some z => exact kf z hz)
theorem cv_icmp_neO (C : cv_Cx X Y own cc nL d) {pc' : Nat} (hp : pc + 3 = pc') {o : Option Nat} (ho : ∀ z, o = some z → z < 2 ^ 31) {off : Int} {tgt : Nat} (hd : decode cc pc = .ok (.if_icmp .ne off, 3)) (ht : (pc : Int) + off = (tgt : Int)) (kt : ∀ z, o = some z → cv_At X Y nL σ tgt lv st) (kf : o = none → cv_At X Y nL σ pc' lv st) : cv_At X Y nL σ pc lv (.int (-9) :: .int (cv_o o) :: st) := cv_icmp_ne C hp hd ht (fun h => by
  cases hz : o with
  | none => exact absurd (by rw [hz]; rfl) h
  | some z => exact kt z hz) (fun h => kf ((cv_o_none ho).mp h))
end CVV
/-- a pure answer: the ints stay -/
abbrev cv_pu (v : Value) (σ : cv_St) : Option Value → cv_St → Prop := fun w u => w = some v ∧ u = σ
