theorem rl.idx {ws : va_W} : ∀ {a b : List (Nat × Value)} {i : Nat} {v : Value}, rl ws a b → lget a i = some v → ∃ (k : Nat) (v' : Value), b[k]? = some (i, v') ∧ rv ws v v'
  | [], _, _, _, _, h => by cases h
  | q :: l, _, i, v, ⟨v', l', e, r1, r2⟩, h => by
    cases e
    unfold lget at h
    by_cases hi : q.1 = i
    · rw [if_pos hi] at h
      cases h
      subst hi
      exact ⟨0, v', by simp, r1⟩
    · rw [if_neg hi] at h
      obtain ⟨k, v1, h1, h2⟩ := rl.idx r2 h
      exact ⟨k + 1, v1, by simpa using h1, h2⟩
/-- a field's link: class number ci of the world, its field k -/
def fldOK (own : String) (idx ci k : Nat) : Prop := ∃ (C : String) (T : u_T) (N : Nat) (ref : String), vwCl[ci]? = some (C, T, N) ∧ (∀ w ∈ u_ws C T N, w ∈ tb) ∧ k < N ∧ Cond.fieldLink own idx ref (T k).2.1 (T k).2.2.1 ∈ tb ∧ (ref = (T k).1 ∨ Cond.sameField ref (T k).1 (T k).2.1 (T k).2.2.1 ∈ tb)
/-- .. that may be written: not final (or in the constructor of the class that declares it), of type ty -/
def putOK (own : String) (idx ci k : Nat) (ty : FieldType) (fin : Bool) : Prop := ∃ (C : String) (T : u_T) (N : Nat) (ref : String) (ty0 : Nat → FieldType), vwCl[ci]? = some (C, T, N) ∧ (∀ w ∈ u_ws C T N, w ∈ tb) ∧ k < N ∧ Cond.fieldLink own idx ref (T k).2.1 (T k).2.2.1 ∈ tb ∧ (ref = (T k).1 ∨ Cond.sameField ref (T k).1 (T k).2.1 (T k).2.2.1 ∈ tb) ∧
  (∀ k, k < N → parseFieldDescriptor (T k).2.2.1 = some (ty0 k)) ∧ (∀ a, a < N → ∀ b, b < N → a ≠ b → (T a).2.1 ≠ (T b).2.1) ∧ (T k).2.2.2 = fin ∧ parseFieldDescriptor (T k).2.2.1 = some ty ∧ (fin = true → (T k).1 = own)
theorem same_of {args : Array Value} {s : State} {ref owner name desc : String} (ht : ∀ w ∈ tb, w.before args s = true) (h : ref = owner ∨ Cond.sameField ref owner name desc ∈ tb) : ∀ x, s.fieldFound? owner name desc = some x → s.fieldFound? ref name desc = some x := by
  intro x hx
  rcases h with rfl | h
  · exact hx
  · exact u_same (ht _ h) x hx
/-- a value that fits a field's type -/
def vok (ty : FieldType) (v : Value) : Prop := match v with
  | .int x => narrow ty (.int x) = .int x ∧ fits ty (.int x) = true
  | .long x => narrow ty (.long x) = .long x ∧ fits ty (.long x) = true
  | .ref _ => ∀ a : Nat, narrow ty (.ref a) = .ref a ∧ fits ty (.ref a) = true
  | .null => narrow ty .null = .null ∧ fits ty .null = true
  | _ => False
theorem vok.conc {ty : FieldType} {ws : va_W} {v v' : Value} (h : vok ty v) (r : rv ws v v') : narrow ty v' = v' ∧ fits ty v' = true := by
  cases v with
  | ref i => obtain ⟨a, e, h1, rfl⟩ := r; exact h a
  | int x => cases r; exact h
  | long x => cases r; exact h
  | null => cases r; exact h
  | float x => exact h.elim
  | double x => exact h.elim
  | retAddr x => exact h.elim
section AWR
variable {X : State → (Nat → Prop) → Prop} {M : aM} {R : Room} {gc gs k j pc n : Nat} {Po : Option Value → aH → Nat → Prop} {PX : String → aH → Nat → Prop} {lv : List (Nat × Value)} {st : List Value} {h : aH}
theorem aw_iinc {i : Nat} {z : Int} {x v : Int32} {lv2 : List (Nat × Value)} (hd : decode M.2.1 pc = .ok (.iinc i z, 3)) (hg : lget lv i = some (.int x)) (hv : x + Int32.ofInt z = v) (hi : i < M.2.2.1) (hf : (i, Value.int v) :: lv.filter (fun q => !(q.1 == i) && !(q.1 + 1 == i && q.2.category == 2)) = lv2) (kk : AW X M R gc gs Po PX k j (pc + 3) lv2 st h n) : AW X M R gc gs Po PX k j pc lv st h n := by
  intro p l e s m args below meth c A D ws0 C hX H locs ws tys ls lv' st' hK hP hD hS hR hn he hl hls hst
  obtain ⟨k0, v', h0, rfl⟩ := rl.idx hl hg
  refine lv_iinc C.1 C.2.1 hd hls h0 hv hi rfl (fun ls1 h1 => ?_)
  subst hf
  exact kk p l e s m args below meth c A D ws0 C hX H locs ws tys ls1 _ _ hK hP hD hS hR hn he ⟨_, _, rfl, rfl, rl.filter1 _ hl⟩ h1 hst
theorem aw_iadd {x : Int32} {y : Int32} (hd : decode M.2.1 pc = .ok (.iadd, 1))  (kk : AW X M R gc gs Po PX k j (pc + 1) lv (.int (x + y) :: st) h n) : AW X M R gc gs Po PX k j pc lv (.int y :: .int x :: st) h n := by
  intro p l e s m args below meth c A D ws0 C hX H locs ws tys ls lv' st' hK hP hD hS hR hn he hl hls hst
  obtain ⟨_, st1, rfl, rfl, hst⟩ := hst
  obtain ⟨_, st1, rfl, rfl, hst⟩ := hst
  exact lv_iadd C.1 C.2.1 hd  (kk p l e s m args below meth c A D ws0 C hX H locs ws tys ls lv' _ hK hP hD hS hR hn he hl hls ⟨_, _, rfl, rfl, hst⟩)
theorem aw_isub {x : Int32} {y : Int32} (hd : decode M.2.1 pc = .ok (.isub, 1))  (kk : AW X M R gc gs Po PX k j (pc + 1) lv (.int (x - y) :: st) h n) : AW X M R gc gs Po PX k j pc lv (.int y :: .int x :: st) h n := by
  intro p l e s m args below meth c A D ws0 C hX H locs ws tys ls lv' st' hK hP hD hS hR hn he hl hls hst
  obtain ⟨_, st1, rfl, rfl, hst⟩ := hst
  obtain ⟨_, st1, rfl, rfl, hst⟩ := hst
  exact lv_isub C.1 C.2.1 hd  (kk p l e s m args below meth c A D ws0 C hX H locs ws tys ls lv' _ hK hP hD hS hR hn he hl hls ⟨_, _, rfl, rfl, hst⟩)
theorem aw_imul {x : Int32} {y : Int32} (hd : decode M.2.1 pc = .ok (.imul, 1))  (kk : AW X M R gc gs Po PX k j (pc + 1) lv (.int (x * y) :: st) h n) : AW X M R gc gs Po PX k j pc lv (.int y :: .int x :: st) h n := by
  intro p l e s m args below meth c A D ws0 C hX H locs ws tys ls lv' st' hK hP hD hS hR hn he hl hls hst
  obtain ⟨_, st1, rfl, rfl, hst⟩ := hst
  obtain ⟨_, st1, rfl, rfl, hst⟩ := hst
  exact lv_imul C.1 C.2.1 hd  (kk p l e s m args below meth c A D ws0 C hX H locs ws tys ls lv' _ hK hP hD hS hR hn he hl hls ⟨_, _, rfl, rfl, hst⟩)
theorem aw_iand {x : Int32} {y : Int32} (hd : decode M.2.1 pc = .ok (.iand, 1))  (kk : AW X M R gc gs Po PX k j (pc + 1) lv (.int (x &&& y) :: st) h n) : AW X M R gc gs Po PX k j pc lv (.int y :: .int x :: st) h n := by
  intro p l e s m args below meth c A D ws0 C hX H locs ws tys ls lv' st' hK hP hD hS hR hn he hl hls hst
  obtain ⟨_, st1, rfl, rfl, hst⟩ := hst
  obtain ⟨_, st1, rfl, rfl, hst⟩ := hst
  exact lv_iand C.1 C.2.1 hd  (kk p l e s m args below meth c A D ws0 C hX H locs ws tys ls lv' _ hK hP hD hS hR hn he hl hls ⟨_, _, rfl, rfl, hst⟩)
theorem aw_ior {x : Int32} {y : Int32} (hd : decode M.2.1 pc = .ok (.ior, 1))  (kk : AW X M R gc gs Po PX k j (pc + 1) lv (.int (x ||| y) :: st) h n) : AW X M R gc gs Po PX k j pc lv (.int y :: .int x :: st) h n := by
  intro p l e s m args below meth c A D ws0 C hX H locs ws tys ls lv' st' hK hP hD hS hR hn he hl hls hst
  obtain ⟨_, st1, rfl, rfl, hst⟩ := hst
  obtain ⟨_, st1, rfl, rfl, hst⟩ := hst
  exact lv_ior C.1 C.2.1 hd  (kk p l e s m args below meth c A D ws0 C hX H locs ws tys ls lv' _ hK hP hD hS hR hn he hl hls ⟨_, _, rfl, rfl, hst⟩)
theorem aw_ixor {x : Int32} {y : Int32} (hd : decode M.2.1 pc = .ok (.ixor, 1))  (kk : AW X M R gc gs Po PX k j (pc + 1) lv (.int (x ^^^ y) :: st) h n) : AW X M R gc gs Po PX k j pc lv (.int y :: .int x :: st) h n := by
  intro p l e s m args below meth c A D ws0 C hX H locs ws tys ls lv' st' hK hP hD hS hR hn he hl hls hst
  obtain ⟨_, st1, rfl, rfl, hst⟩ := hst
  obtain ⟨_, st1, rfl, rfl, hst⟩ := hst
  exact lv_ixor C.1 C.2.1 hd  (kk p l e s m args below meth c A D ws0 C hX H locs ws tys ls lv' _ hK hP hD hS hR hn he hl hls ⟨_, _, rfl, rfl, hst⟩)
theorem aw_ladd {x : Int64} {y : Int64} (hd : decode M.2.1 pc = .ok (.ladd, 1))  (kk : AW X M R gc gs Po PX k j (pc + 1) lv (.long (x + y) :: st) h n) : AW X M R gc gs Po PX k j pc lv (.long y :: .long x :: st) h n := by
  intro p l e s m args below meth c A D ws0 C hX H locs ws tys ls lv' st' hK hP hD hS hR hn he hl hls hst
  obtain ⟨_, st1, rfl, rfl, hst⟩ := hst
  obtain ⟨_, st1, rfl, rfl, hst⟩ := hst
  exact lv_ladd C.1 C.2.1 hd  (kk p l e s m args below meth c A D ws0 C hX H locs ws tys ls lv' _ hK hP hD hS hR hn he hl hls ⟨_, _, rfl, rfl, hst⟩)
theorem aw_lsub {x : Int64} {y : Int64} (hd : decode M.2.1 pc = .ok (.lsub, 1))  (kk : AW X M R gc gs Po PX k j (pc + 1) lv (.long (x - y) :: st) h n) : AW X M R gc gs Po PX k j pc lv (.long y :: .long x :: st) h n := by
  intro p l e s m args below meth c A D ws0 C hX H locs ws tys ls lv' st' hK hP hD hS hR hn he hl hls hst
  obtain ⟨_, st1, rfl, rfl, hst⟩ := hst
  obtain ⟨_, st1, rfl, rfl, hst⟩ := hst
  exact lv_lsub C.1 C.2.1 hd  (kk p l e s m args below meth c A D ws0 C hX H locs ws tys ls lv' _ hK hP hD hS hR hn he hl hls ⟨_, _, rfl, rfl, hst⟩)
theorem aw_lmul {x : Int64} {y : Int64} (hd : decode M.2.1 pc = .ok (.lmul, 1))  (kk : AW X M R gc gs Po PX k j (pc + 1) lv (.long (x * y) :: st) h n) : AW X M R gc gs Po PX k j pc lv (.long y :: .long x :: st) h n := by
  intro p l e s m args below meth c A D ws0 C hX H locs ws tys ls lv' st' hK hP hD hS hR hn he hl hls hst
  obtain ⟨_, st1, rfl, rfl, hst⟩ := hst
  obtain ⟨_, st1, rfl, rfl, hst⟩ := hst
  exact lv_lmul C.1 C.2.1 hd  (kk p l e s m args below meth c A D ws0 C hX H locs ws tys ls lv' _ hK hP hD hS hR hn he hl hls ⟨_, _, rfl, rfl, hst⟩)
theorem aw_land {x : Int64} {y : Int64} (hd : decode M.2.1 pc = .ok (.land, 1))  (kk : AW X M R gc gs Po PX k j (pc + 1) lv (.long (x &&& y) :: st) h n) : AW X M R gc gs Po PX k j pc lv (.long y :: .long x :: st) h n := by
  intro p l e s m args below meth c A D ws0 C hX H locs ws tys ls lv' st' hK hP hD hS hR hn he hl hls hst
  obtain ⟨_, st1, rfl, rfl, hst⟩ := hst
  obtain ⟨_, st1, rfl, rfl, hst⟩ := hst
  exact lv_land C.1 C.2.1 hd  (kk p l e s m args below meth c A D ws0 C hX H locs ws tys ls lv' _ hK hP hD hS hR hn he hl hls ⟨_, _, rfl, rfl, hst⟩)
theorem aw_lor {x : Int64} {y : Int64} (hd : decode M.2.1 pc = .ok (.lor, 1))  (kk : AW X M R gc gs Po PX k j (pc + 1) lv (.long (x ||| y) :: st) h n) : AW X M R gc gs Po PX k j pc lv (.long y :: .long x :: st) h n := by
  intro p l e s m args below meth c A D ws0 C hX H locs ws tys ls lv' st' hK hP hD hS hR hn he hl hls hst
  obtain ⟨_, st1, rfl, rfl, hst⟩ := hst
  obtain ⟨_, st1, rfl, rfl, hst⟩ := hst
  exact lv_lor C.1 C.2.1 hd  (kk p l e s m args below meth c A D ws0 C hX H locs ws tys ls lv' _ hK hP hD hS hR hn he hl hls ⟨_, _, rfl, rfl, hst⟩)
theorem aw_lxor {x : Int64} {y : Int64} (hd : decode M.2.1 pc = .ok (.lxor, 1))  (kk : AW X M R gc gs Po PX k j (pc + 1) lv (.long (x ^^^ y) :: st) h n) : AW X M R gc gs Po PX k j pc lv (.long y :: .long x :: st) h n := by
  intro p l e s m args below meth c A D ws0 C hX H locs ws tys ls lv' st' hK hP hD hS hR hn he hl hls hst
  obtain ⟨_, st1, rfl, rfl, hst⟩ := hst
  obtain ⟨_, st1, rfl, rfl, hst⟩ := hst
  exact lv_lxor C.1 C.2.1 hd  (kk p l e s m args below meth c A D ws0 C hX H locs ws tys ls lv' _ hK hP hD hS hR hn he hl hls ⟨_, _, rfl, rfl, hst⟩)
theorem aw_idiv {x : Int32} {y : Int32} (hd : decode M.2.1 pc = .ok (.idiv, 1)) (hy : ¬ y = 0) (kk : AW X M R gc gs Po PX k j (pc + 1) lv (.int (x / y) :: st) h n) : AW X M R gc gs Po PX k j pc lv (.int y :: .int x :: st) h n := by
  intro p l e s m args below meth c A D ws0 C hX H locs ws tys ls lv' st' hK hP hD hS hR hn he hl hls hst
  obtain ⟨_, st1, rfl, rfl, hst⟩ := hst
  obtain ⟨_, st1, rfl, rfl, hst⟩ := hst
  exact lv_idiv C.1 C.2.1 hd hy (kk p l e s m args below meth c A D ws0 C hX H locs ws tys ls lv' _ hK hP hD hS hR hn he hl hls ⟨_, _, rfl, rfl, hst⟩)
theorem aw_irem {x : Int32} {y : Int32} (hd : decode M.2.1 pc = .ok (.irem, 1)) (hy : ¬ y = 0) (kk : AW X M R gc gs Po PX k j (pc + 1) lv (.int (x - x / y * y) :: st) h n) : AW X M R gc gs Po PX k j pc lv (.int y :: .int x :: st) h n := by
  intro p l e s m args below meth c A D ws0 C hX H locs ws tys ls lv' st' hK hP hD hS hR hn he hl hls hst
  obtain ⟨_, st1, rfl, rfl, hst⟩ := hst
  obtain ⟨_, st1, rfl, rfl, hst⟩ := hst
  exact lv_irem C.1 C.2.1 hd hy (kk p l e s m args below meth c A D ws0 C hX H locs ws tys ls lv' _ hK hP hD hS hR hn he hl hls ⟨_, _, rfl, rfl, hst⟩)
theorem aw_ishl {x : Int32} {y : Int32} (hd : decode M.2.1 pc = .ok (.ishl, 1))  (kk : AW X M R gc gs Po PX k j (pc + 1) lv (.int (x <<< (y &&& 31)) :: st) h n) : AW X M R gc gs Po PX k j pc lv (.int y :: .int x :: st) h n := by
  intro p l e s m args below meth c A D ws0 C hX H locs ws tys ls lv' st' hK hP hD hS hR hn he hl hls hst
  obtain ⟨_, st1, rfl, rfl, hst⟩ := hst
  obtain ⟨_, st1, rfl, rfl, hst⟩ := hst
  exact lv_ishl C.1 C.2.1 hd  (kk p l e s m args below meth c A D ws0 C hX H locs ws tys ls lv' _ hK hP hD hS hR hn he hl hls ⟨_, _, rfl, rfl, hst⟩)
theorem aw_ishr {x : Int32} {y : Int32} (hd : decode M.2.1 pc = .ok (.ishr, 1))  (kk : AW X M R gc gs Po PX k j (pc + 1) lv (.int (x >>> (y &&& 31)) :: st) h n) : AW X M R gc gs Po PX k j pc lv (.int y :: .int x :: st) h n := by
  intro p l e s m args below meth c A D ws0 C hX H locs ws tys ls lv' st' hK hP hD hS hR hn he hl hls hst
  obtain ⟨_, st1, rfl, rfl, hst⟩ := hst
  obtain ⟨_, st1, rfl, rfl, hst⟩ := hst
  exact lv_ishr C.1 C.2.1 hd  (kk p l e s m args below meth c A D ws0 C hX H locs ws tys ls lv' _ hK hP hD hS hR hn he hl hls ⟨_, _, rfl, rfl, hst⟩)
theorem aw_iushr {x : Int32} {y : Int32} (hd : decode M.2.1 pc = .ok (.iushr, 1))  (kk : AW X M R gc gs Po PX k j (pc + 1) lv (.int ((x.toUInt32 >>> (y.toUInt32 &&& Int32.toUInt32 31)).toInt32) :: st) h n) : AW X M R gc gs Po PX k j pc lv (.int y :: .int x :: st) h n := by
  intro p l e s m args below meth c A D ws0 C hX H locs ws tys ls lv' st' hK hP hD hS hR hn he hl hls hst
  obtain ⟨_, st1, rfl, rfl, hst⟩ := hst
  obtain ⟨_, st1, rfl, rfl, hst⟩ := hst
  exact lv_iushr C.1 C.2.1 hd rfl (kk p l e s m args below meth c A D ws0 C hX H locs ws tys ls lv' _ hK hP hD hS hR hn he hl hls ⟨_, _, rfl, rfl, hst⟩)
theorem aw_lshl {x : Int64} {y : Int32} (hd : decode M.2.1 pc = .ok (.lshl, 1))  (kk : AW X M R gc gs Po PX k j (pc + 1) lv (.long (x <<< (y.toInt64 &&& 63)) :: st) h n) : AW X M R gc gs Po PX k j pc lv (.int y :: .long x :: st) h n := by
  intro p l e s m args below meth c A D ws0 C hX H locs ws tys ls lv' st' hK hP hD hS hR hn he hl hls hst
  obtain ⟨_, st1, rfl, rfl, hst⟩ := hst
  obtain ⟨_, st1, rfl, rfl, hst⟩ := hst
  exact lv_lshl C.1 C.2.1 hd rfl (kk p l e s m args below meth c A D ws0 C hX H locs ws tys ls lv' _ hK hP hD hS hR hn he hl hls ⟨_, _, rfl, rfl, hst⟩)
theorem aw_lcmp {x : Int64} {y : Int64} (hd : decode M.2.1 pc = .ok (.lcmp, 1))  (kk : AW X M R gc gs Po PX k j (pc + 1) lv (.int (lg_cmp x y) :: st) h n) : AW X M R gc gs Po PX k j pc lv (.long y :: .long x :: st) h n := by
  intro p l e s m args below meth c A D ws0 C hX H locs ws tys ls lv' st' hK hP hD hS hR hn he hl hls hst
  obtain ⟨_, st1, rfl, rfl, hst⟩ := hst
  obtain ⟨_, st1, rfl, rfl, hst⟩ := hst
  exact W.lcmp C.1 C.2.1 hd  (kk p l e s m args below meth c A D ws0 C hX H locs ws tys ls lv' _ hK hP hD hS hR hn he hl hls ⟨_, _, rfl, rfl, hst⟩)
theorem aw_ineg {x : Int32} (hd : decode M.2.1 pc = .ok (.ineg, 1)) (kk : AW X M R gc gs Po PX k j (pc + 1) lv (.int (-x) :: st) h n) : AW X M R gc gs Po PX k j pc lv (.int x :: st) h n := by
  intro p l e s m args below meth c A D ws0 C hX H locs ws tys ls lv' st' hK hP hD hS hR hn he hl hls hst
  obtain ⟨_, st1, rfl, rfl, hst⟩ := hst
  exact lv_ineg C.1 C.2.1 hd  (kk p l e s m args below meth c A D ws0 C hX H locs ws tys ls lv' _ hK hP hD hS hR hn he hl hls ⟨_, _, rfl, rfl, hst⟩)
theorem aw_lneg {x : Int64} (hd : decode M.2.1 pc = .ok (.lneg, 1)) (kk : AW X M R gc gs Po PX k j (pc + 1) lv (.long (-x) :: st) h n) : AW X M R gc gs Po PX k j pc lv (.long x :: st) h n := by
  intro p l e s m args below meth c A D ws0 C hX H locs ws tys ls lv' st' hK hP hD hS hR hn he hl hls hst
  obtain ⟨_, st1, rfl, rfl, hst⟩ := hst
  exact lv_lneg C.1 C.2.1 hd  (kk p l e s m args below meth c A D ws0 C hX H locs ws tys ls lv' _ hK hP hD hS hR hn he hl hls ⟨_, _, rfl, rfl, hst⟩)
theorem aw_i2l {x : Int32} (hd : decode M.2.1 pc = .ok (.i2l, 1)) (kk : AW X M R gc gs Po PX k j (pc + 1) lv (.long (x.toInt64) :: st) h n) : AW X M R gc gs Po PX k j pc lv (.int x :: st) h n := by
  intro p l e s m args below meth c A D ws0 C hX H locs ws tys ls lv' st' hK hP hD hS hR hn he hl hls hst
  obtain ⟨_, st1, rfl, rfl, hst⟩ := hst
  exact lv_i2l C.1 C.2.1 hd rfl (kk p l e s m args below meth c A D ws0 C hX H locs ws tys ls lv' _ hK hP hD hS hR hn he hl hls ⟨_, _, rfl, rfl, hst⟩)
theorem aw_l2i {x : Int64} (hd : decode M.2.1 pc = .ok (.l2i, 1)) (kk : AW X M R gc gs Po PX k j (pc + 1) lv (.int (x.toInt32) :: st) h n) : AW X M R gc gs Po PX k j pc lv (.long x :: st) h n := by
  intro p l e s m args below meth c A D ws0 C hX H locs ws tys ls lv' st' hK hP hD hS hR hn he hl hls hst
  obtain ⟨_, st1, rfl, rfl, hst⟩ := hst
  exact lv_l2i C.1 C.2.1 hd rfl (kk p l e s m args below meth c A D ws0 C hX H locs ws tys ls lv' _ hK hP hD hS hR hn he hl hls ⟨_, _, rfl, rfl, hst⟩)
theorem aw_i2b {x : Int32} (hd : decode M.2.1 pc = .ok (.i2b, 1)) (kk : AW X M R gc gs Po PX k j (pc + 1) lv (.int (x.toInt8.toInt32) :: st) h n) : AW X M R gc gs Po PX k j pc lv (.int x :: st) h n := by
  intro p l e s m args below meth c A D ws0 C hX H locs ws tys ls lv' st' hK hP hD hS hR hn he hl hls hst
  obtain ⟨_, st1, rfl, rfl, hst⟩ := hst
  exact lv_i2b C.1 C.2.1 hd rfl (kk p l e s m args below meth c A D ws0 C hX H locs ws tys ls lv' _ hK hP hD hS hR hn he hl hls ⟨_, _, rfl, rfl, hst⟩)
theorem aw_i2c {x : Int32} (hd : decode M.2.1 pc = .ok (.i2c, 1)) (kk : AW X M R gc gs Po PX k j (pc + 1) lv (.int ((x.toUInt32 % 65536).toInt32) :: st) h n) : AW X M R gc gs Po PX k j pc lv (.int x :: st) h n := by
  intro p l e s m args below meth c A D ws0 C hX H locs ws tys ls lv' st' hK hP hD hS hR hn he hl hls hst
  obtain ⟨_, st1, rfl, rfl, hst⟩ := hst
  exact lv_i2c C.1 C.2.1 hd rfl (kk p l e s m args below meth c A D ws0 C hX H locs ws tys ls lv' _ hK hP hD hS hR hn he hl hls ⟨_, _, rfl, rfl, hst⟩)
theorem aw_dup {v : Value} (hd : decode M.2.1 pc = .ok (.dup, 1)) (hc : v.category = 1) (kk : AW X M R gc gs Po PX k j (pc + 1) lv (v :: v :: st) h n) : AW X M R gc gs Po PX k j pc lv (v :: st) h n := by
  intro p l e s m args below meth c A D ws0 C hX H locs ws tys ls lv' st' hK hP hD hS hR hn he hl hls hst
  obtain ⟨v', st1, rfl, hv, hst⟩ := hst
  exact lv_dup C.1 C.2.1 hd (by rw [hv.cat]; exact hc) (kk p l e s m args below meth c A D ws0 C hX H locs ws tys ls lv' _ hK hP hD hS hR hn he hl hls ⟨_, _, rfl, hv, _, _, rfl, hv, hst⟩)
theorem aw_pop {v : Value} (hd : decode M.2.1 pc = .ok (.pop, 1)) (hc : v.category = 1) (kk : AW X M R gc gs Po PX k j (pc + 1) lv st h n) : AW X M R gc gs Po PX k j pc lv (v :: st) h n := by
  intro p l e s m args below meth c A D ws0 C hX H locs ws tys ls lv' st' hK hP hD hS hR hn he hl hls hst
  obtain ⟨v', st1, rfl, hv, hst⟩ := hst
  exact lv_pop C.1 C.2.1 hd (by rw [hv.cat]; exact hc) (kk p l e s m args below meth c A D ws0 C hX H locs ws tys ls lv' _ hK hP hD hS hR hn he hl hls hst)
theorem aw_if_eq {x : Int32} {off : Int} {tgt : Nat} (hd : decode M.2.1 pc = .ok (.ifCond .eq off, 3)) (ht : (pc : Int) + off = (tgt : Int)) (kt : x = 0 → AW X M R gc gs Po PX k j tgt lv st h n) (kf : ¬ x = 0 → AW X M R gc gs Po PX k j (pc + 3) lv st h n) : AW X M R gc gs Po PX k j pc lv (.int x :: st) h n := by
  intro p l e s m args below meth c A D ws0 C hX H locs ws tys ls lv' st' hK hP hD hS hR hn he hl hls hst
  obtain ⟨_, st1, rfl, rfl, hst⟩ := hst
  exact lv_if_eq C.1 C.2.1 hd ht (fun q => kt q p l e s m args below meth c A D ws0 C hX H locs ws tys ls lv' _ hK hP hD hS hR hn he hl hls hst) (fun q => kf q p l e s m args below meth c A D ws0 C hX H locs ws tys ls lv' _ hK hP hD hS hR hn he hl hls hst)
theorem aw_icmp_eq {x y : Int32} {off : Int} {tgt : Nat} (hd : decode M.2.1 pc = .ok (.if_icmp .eq off, 3)) (ht : (pc : Int) + off = (tgt : Int)) (kt : x = y → AW X M R gc gs Po PX k j tgt lv st h n) (kf : ¬ x = y → AW X M R gc gs Po PX k j (pc + 3) lv st h n) : AW X M R gc gs Po PX k j pc lv (.int y :: .int x :: st) h n := by
  intro p l e s m args below meth c A D ws0 C hX H locs ws tys ls lv' st' hK hP hD hS hR hn he hl hls hst
  obtain ⟨_, st1, rfl, rfl, hst⟩ := hst
  obtain ⟨_, st1, rfl, rfl, hst⟩ := hst
  exact lv_icmp_eq C.1 C.2.1 hd ht (fun q => kt q p l e s m args below meth c A D ws0 C hX H locs ws tys ls lv' _ hK hP hD hS hR hn he hl hls hst) (fun q => kf q p l e s m args below meth c A D ws0 C hX H locs ws tys ls lv' _ hK hP hD hS hR hn he hl hls hst)
theorem aw_if_ne {x : Int32} {off : Int} {tgt : Nat} (hd : decode M.2.1 pc = .ok (.ifCond .ne off, 3)) (ht : (pc : Int) + off = (tgt : Int)) (kt : ¬ x = 0 → AW X M R gc gs Po PX k j tgt lv st h n) (kf : x = 0 → AW X M R gc gs Po PX k j (pc + 3) lv st h n) : AW X M R gc gs Po PX k j pc lv (.int x :: st) h n := by
  intro p l e s m args below meth c A D ws0 C hX H locs ws tys ls lv' st' hK hP hD hS hR hn he hl hls hst
  obtain ⟨_, st1, rfl, rfl, hst⟩ := hst
  exact lv_if_ne C.1 C.2.1 hd ht (fun q => kt q p l e s m args below meth c A D ws0 C hX H locs ws tys ls lv' _ hK hP hD hS hR hn he hl hls hst) (fun q => kf q p l e s m args below meth c A D ws0 C hX H locs ws tys ls lv' _ hK hP hD hS hR hn he hl hls hst)
theorem aw_icmp_ne {x y : Int32} {off : Int} {tgt : Nat} (hd : decode M.2.1 pc = .ok (.if_icmp .ne off, 3)) (ht : (pc : Int) + off = (tgt : Int)) (kt : ¬ x = y → AW X M R gc gs Po PX k j tgt lv st h n) (kf : x = y → AW X M R gc gs Po PX k j (pc + 3) lv st h n) : AW X M R gc gs Po PX k j pc lv (.int y :: .int x :: st) h n := by
  intro p l e s m args below meth c A D ws0 C hX H locs ws tys ls lv' st' hK hP hD hS hR hn he hl hls hst
  obtain ⟨_, st1, rfl, rfl, hst⟩ := hst
  obtain ⟨_, st1, rfl, rfl, hst⟩ := hst
  exact lv_icmp_ne C.1 C.2.1 hd ht (fun q => kt q p l e s m args below meth c A D ws0 C hX H locs ws tys ls lv' _ hK hP hD hS hR hn he hl hls hst) (fun q => kf q p l e s m args below meth c A D ws0 C hX H locs ws tys ls lv' _ hK hP hD hS hR hn he hl hls hst)
theorem aw_if_lt {x : Int32} {off : Int} {tgt : Nat} (hd : decode M.2.1 pc = .ok (.ifCond .lt off, 3)) (ht : (pc : Int) + off = (tgt : Int)) (kt : x < 0 → AW X M R gc gs Po PX k j tgt lv st h n) (kf : ¬ x < 0 → AW X M R gc gs Po PX k j (pc + 3) lv st h n) : AW X M R gc gs Po PX k j pc lv (.int x :: st) h n := by
  intro p l e s m args below meth c A D ws0 C hX H locs ws tys ls lv' st' hK hP hD hS hR hn he hl hls hst
  obtain ⟨_, st1, rfl, rfl, hst⟩ := hst
  exact lv_if_lt C.1 C.2.1 hd ht (fun q => kt q p l e s m args below meth c A D ws0 C hX H locs ws tys ls lv' _ hK hP hD hS hR hn he hl hls hst) (fun q => kf q p l e s m args below meth c A D ws0 C hX H locs ws tys ls lv' _ hK hP hD hS hR hn he hl hls hst)
theorem aw_icmp_lt {x y : Int32} {off : Int} {tgt : Nat} (hd : decode M.2.1 pc = .ok (.if_icmp .lt off, 3)) (ht : (pc : Int) + off = (tgt : Int)) (kt : x < y → AW X M R gc gs Po PX k j tgt lv st h n) (kf : ¬ x < y → AW X M R gc gs Po PX k j (pc + 3) lv st h n) : AW X M R gc gs Po PX k j pc lv (.int y :: .int x :: st) h n := by
  intro p l e s m args below meth c A D ws0 C hX H locs ws tys ls lv' st' hK hP hD hS hR hn he hl hls hst
  obtain ⟨_, st1, rfl, rfl, hst⟩ := hst
  obtain ⟨_, st1, rfl, rfl, hst⟩ := hst
  exact lv_icmp_lt C.1 C.2.1 hd ht (fun q => kt q p l e s m args below meth c A D ws0 C hX H locs ws tys ls lv' _ hK hP hD hS hR hn he hl hls hst) (fun q => kf q p l e s m args below meth c A D ws0 C hX H locs ws tys ls lv' _ hK hP hD hS hR hn he hl hls hst)
theorem aw_if_ge {x : Int32} {off : Int} {tgt : Nat} (hd : decode M.2.1 pc = .ok (.ifCond .ge off, 3)) (ht : (pc : Int) + off = (tgt : Int)) (kt : 0 ≤ x → AW X M R gc gs Po PX k j tgt lv st h n) (kf : ¬ 0 ≤ x → AW X M R gc gs Po PX k j (pc + 3) lv st h n) : AW X M R gc gs Po PX k j pc lv (.int x :: st) h n := by
  intro p l e s m args below meth c A D ws0 C hX H locs ws tys ls lv' st' hK hP hD hS hR hn he hl hls hst
  obtain ⟨_, st1, rfl, rfl, hst⟩ := hst
  exact lv_if_ge C.1 C.2.1 hd ht (fun q => kt q p l e s m args below meth c A D ws0 C hX H locs ws tys ls lv' _ hK hP hD hS hR hn he hl hls hst) (fun q => kf q p l e s m args below meth c A D ws0 C hX H locs ws tys ls lv' _ hK hP hD hS hR hn he hl hls hst)
theorem aw_icmp_ge {x y : Int32} {off : Int} {tgt : Nat} (hd : decode M.2.1 pc = .ok (.if_icmp .ge off, 3)) (ht : (pc : Int) + off = (tgt : Int)) (kt : y ≤ x → AW X M R gc gs Po PX k j tgt lv st h n) (kf : ¬ y ≤ x → AW X M R gc gs Po PX k j (pc + 3) lv st h n) : AW X M R gc gs Po PX k j pc lv (.int y :: .int x :: st) h n := by
  intro p l e s m args below meth c A D ws0 C hX H locs ws tys ls lv' st' hK hP hD hS hR hn he hl hls hst
  obtain ⟨_, st1, rfl, rfl, hst⟩ := hst
  obtain ⟨_, st1, rfl, rfl, hst⟩ := hst
  exact lv_icmp_ge C.1 C.2.1 hd ht (fun q => kt q p l e s m args below meth c A D ws0 C hX H locs ws tys ls lv' _ hK hP hD hS hR hn he hl hls hst) (fun q => kf q p l e s m args below meth c A D ws0 C hX H locs ws tys ls lv' _ hK hP hD hS hR hn he hl hls hst)
theorem aw_if_gt {x : Int32} {off : Int} {tgt : Nat} (hd : decode M.2.1 pc = .ok (.ifCond .gt off, 3)) (ht : (pc : Int) + off = (tgt : Int)) (kt : 0 < x → AW X M R gc gs Po PX k j tgt lv st h n) (kf : ¬ 0 < x → AW X M R gc gs Po PX k j (pc + 3) lv st h n) : AW X M R gc gs Po PX k j pc lv (.int x :: st) h n := by
  intro p l e s m args below meth c A D ws0 C hX H locs ws tys ls lv' st' hK hP hD hS hR hn he hl hls hst
  obtain ⟨_, st1, rfl, rfl, hst⟩ := hst
  exact lv_if_gt C.1 C.2.1 hd ht (fun q => kt q p l e s m args below meth c A D ws0 C hX H locs ws tys ls lv' _ hK hP hD hS hR hn he hl hls hst) (fun q => kf q p l e s m args below meth c A D ws0 C hX H locs ws tys ls lv' _ hK hP hD hS hR hn he hl hls hst)
theorem aw_icmp_gt {x y : Int32} {off : Int} {tgt : Nat} (hd : decode M.2.1 pc = .ok (.if_icmp .gt off, 3)) (ht : (pc : Int) + off = (tgt : Int)) (kt : y < x → AW X M R gc gs Po PX k j tgt lv st h n) (kf : ¬ y < x → AW X M R gc gs Po PX k j (pc + 3) lv st h n) : AW X M R gc gs Po PX k j pc lv (.int y :: .int x :: st) h n := by
  intro p l e s m args below meth c A D ws0 C hX H locs ws tys ls lv' st' hK hP hD hS hR hn he hl hls hst
  obtain ⟨_, st1, rfl, rfl, hst⟩ := hst
  obtain ⟨_, st1, rfl, rfl, hst⟩ := hst
  exact lv_icmp_gt C.1 C.2.1 hd ht (fun q => kt q p l e s m args below meth c A D ws0 C hX H locs ws tys ls lv' _ hK hP hD hS hR hn he hl hls hst) (fun q => kf q p l e s m args below meth c A D ws0 C hX H locs ws tys ls lv' _ hK hP hD hS hR hn he hl hls hst)
theorem aw_if_le {x : Int32} {off : Int} {tgt : Nat} (hd : decode M.2.1 pc = .ok (.ifCond .le off, 3)) (ht : (pc : Int) + off = (tgt : Int)) (kt : x ≤ 0 → AW X M R gc gs Po PX k j tgt lv st h n) (kf : ¬ x ≤ 0 → AW X M R gc gs Po PX k j (pc + 3) lv st h n) : AW X M R gc gs Po PX k j pc lv (.int x :: st) h n := by
  intro p l e s m args below meth c A D ws0 C hX H locs ws tys ls lv' st' hK hP hD hS hR hn he hl hls hst
  obtain ⟨_, st1, rfl, rfl, hst⟩ := hst
  exact lv_if_le C.1 C.2.1 hd ht (fun q => kt q p l e s m args below meth c A D ws0 C hX H locs ws tys ls lv' _ hK hP hD hS hR hn he hl hls hst) (fun q => kf q p l e s m args below meth c A D ws0 C hX H locs ws tys ls lv' _ hK hP hD hS hR hn he hl hls hst)
theorem aw_icmp_le {x y : Int32} {off : Int} {tgt : Nat} (hd : decode M.2.1 pc = .ok (.if_icmp .le off, 3)) (ht : (pc : Int) + off = (tgt : Int)) (kt : x ≤ y → AW X M R gc gs Po PX k j tgt lv st h n) (kf : ¬ x ≤ y → AW X M R gc gs Po PX k j (pc + 3) lv st h n) : AW X M R gc gs Po PX k j pc lv (.int y :: .int x :: st) h n := by
  intro p l e s m args below meth c A D ws0 C hX H locs ws tys ls lv' st' hK hP hD hS hR hn he hl hls hst
  obtain ⟨_, st1, rfl, rfl, hst⟩ := hst
  obtain ⟨_, st1, rfl, rfl, hst⟩ := hst
  exact lv_icmp_le C.1 C.2.1 hd ht (fun q => kt q p l e s m args below meth c A D ws0 C hX H locs ws tys ls lv' _ hK hP hD hS hR hn he hl hls hst) (fun q => kf q p l e s m args below meth c A D ws0 C hX H locs ws tys ls lv' _ hK hP hD hS hR hn he hl hls hst)
theorem aw_goto {off : Int} {tgt : Nat} (hd : decode M.2.1 pc = .ok (.goto off, 3)) (ht : (pc : Int) + off = (tgt : Int)) (kk : AW X M R gc gs Po PX k j tgt lv st h n) : AW X M R gc gs Po PX k j pc lv st h n := by
  intro p l e s m args below meth c A D ws0 C hX H locs ws tys ls lv' st' hK hP hD hS hR hn he hl hls hst
  exact lv_goto C.1 C.2.1 hd ht (kk p l e s m args below meth c A D ws0 C hX H locs ws tys ls lv' _ hK hP hD hS hR hn he hl hls hst)
theorem aw_tableIn {dflt lo hi : Int} {offs : Array Int} {len : Nat} {x : Int32} {off : Int} {tgt : Nat} (hd : decode M.2.1 pc = .ok (.tableswitch dflt lo hi offs, len)) (h1 : ¬ x.toInt < lo) (h2 : ¬ hi < x.toInt) (ho : offs[(x.toInt - lo).toNat]? = some off) (ht : (pc : Int) + off = (tgt : Int)) (kk : AW X M R gc gs Po PX k j tgt lv st h n) : AW X M R gc gs Po PX k j pc lv (.int x :: st) h n := by
  intro p l e s m args below meth c A D ws0 C hX H locs ws tys ls lv' st' hK hP hD hS hR hn he hl hls hst
  obtain ⟨_, st1, rfl, rfl, hst⟩ := hst
  exact lv_tableIn C.1 C.2.1 hd h1 h2 ho ht (kk p l e s m args below meth c A D ws0 C hX H locs ws tys ls lv' _ hK hP hD hS hR hn he hl hls hst)
theorem aw_tableOut {dflt lo hi : Int} {offs : Array Int} {len : Nat} {x : Int32} {tgt : Nat} (hd : decode M.2.1 pc = .ok (.tableswitch dflt lo hi offs, len)) (h1 : x.toInt < lo ∨ hi < x.toInt) (ht : (pc : Int) + dflt = (tgt : Int)) (kk : AW X M R gc gs Po PX k j tgt lv st h n) : AW X M R gc gs Po PX k j pc lv (.int x :: st) h n := by
  intro p l e s m args below meth c A D ws0 C hX H locs ws tys ls lv' st' hK hP hD hS hR hn he hl hls hst
  obtain ⟨_, st1, rfl, rfl, hst⟩ := hst
  exact lv_tableOut C.1 C.2.1 hd h1 ht (kk p l e s m args below meth c A D ws0 C hX H locs ws tys ls lv' _ hK hP hD hS hR hn he hl hls hst)
theorem aw_lv  (lv2 : List (Nat × Value)) (hq : ∀ q ∈ lv2, lget lv q.1 = some q.2) (kk : AW X M R gc gs Po PX k j pc lv2 st h n) : AW X M R gc gs Po PX k j pc lv st h n := by
  intro p l e s m args below meth c A D ws0 C hX H locs ws tys ls lv' st' hK hP hD hS hR hn he hl hls hst
  obtain ⟨l2, h1, h2⟩ := rl.pick hls hl hq
  exact kk p l e s m args below meth c A D ws0 C hX H locs ws tys ls l2 _ hK hP hD hS hR hn he h1 h2 hst
theorem aw_wide {k2 j2 : Nat} (h1 : k ≤ k2) (h2 : j ≤ j2) (kk : AW X M R gc gs Po PX k2 j2 pc lv st h n) : AW X M R gc gs Po PX k j pc lv st h n := by
  intro p l e s m args below meth c A D ws0 C hX H locs ws tys ls lv' st' hK hP hD hS hR hn he hl hls hst
  exact W.widen h1 h2 (kk p l e s m args below meth c A D ws0 C hX H locs ws tys ls lv' _ hK hP hD hS hR hn he hl hls hst)
theorem aw_getf {idx ci f q : Nat} {fs : List Value} {v : Value} (hd : decode M.2.1 pc = .ok (.getfield idx, 3)) (hf : fldOK M.1.cls idx ci f) (ho : h q = some (.inr (ci, fs))) (hv : fs[f]? = some v) (kk : AW X M R gc gs Po PX k j (pc + 3) lv (v :: st) h n) : AW X M R gc gs Po PX k j pc lv (.ref q :: st) h n := by
  intro p l e s m args below meth c A D ws0 C hX H locs ws tys ls lv' st' hK hP hD hS hR hn he hl hls hst
  obtain ⟨_, st1, rfl, ⟨a, e1, h2, rfl⟩, hst⟩ := hst
  obtain ⟨Cn, T, N, ref, c1, c2, c3, c4, c5⟩ := hf
  obtain ⟨a2, e2, h3, h4⟩ := hR q _ ho
  cases h2.symm.trans h3
  match e1, h4 with
  | .inr (ci2, fs2), h4 =>
    obtain ⟨rfl, h5⟩ := h4
    obtain ⟨v', h6, h7⟩ := h5.get hv
    exact va_get C.1 C.2.1 C.2.2.2.2.1 c2 C.2.2.2.1 hK hP q h3 c1 f c3 (C.2.2.2.2.1 _ c4) (same_of C.2.2.2.2.1 c5) h6 hd (kk p l e s m args below meth c A D ws0 C hX H locs ws tys ls lv' _ hK hP hD hS hR hn he hl hls ⟨_, _, rfl, h7, hst⟩)
theorem aw_putf {idx ci f q : Nat} {ty : FieldType} {fs : List Value} {v : Value} (hd : decode M.2.1 pc = .ok (.putfield idx, 3)) (hf : putOK M.1.cls idx ci f ty false)  (ho : h q = some (.inr (ci, fs))) (hlen : f < fs.length) (hv : vok ty v) (kk : AW X M R gc gs Po PX k j (pc + 3) lv st (va_up h q (some (.inr (ci, fs.set f v)))) n) : AW X M R gc gs Po PX k j pc lv (v :: .ref q :: st) h n := by
  intro p l e s m args below meth c A D ws0 C hX H locs ws tys ls lv' st' hK hP hD hS hR hn he hl hls hst
  obtain ⟨v', st1, rfl, hrv, hst⟩ := hst
  obtain ⟨_, st1, rfl, ⟨a, e1, h2, rfl⟩, hst⟩ := hst
  obtain ⟨Cn, T, N, ref, ty0, c1, c2, c3, c4, c5, c6, c7, c8, c9, c10⟩ := hf
  obtain ⟨a2, e2, h3, h4⟩ := hR q _ ho
  cases h2.symm.trans h3
  match e1, h4, h3 with
  | .inr (ci2, fs2), h4, h3 =>
    obtain ⟨rfl, h5⟩ := h4
    obtain ⟨n1, n2⟩ := hv.conc hrv
    refine va_put C.1 C.2.1 C.2.2.2.2.1 c2 ty0 c6 c7 C.2.2.2.1 hK hP hD hS q h3 c1 f c3 (C.2.2.2.2.1 _ c4) (same_of C.2.2.2.2.1 c5) c8 c9 n1 n2 (by rw [h5.len]; exact hlen) hd (fun H1 locs1 hP1 hD1 hS1 => ?_)
    have hx := ex.set (e := Sum.inr (ci, fs2.set f v')) h3
    exact kk p l e s m args below meth c A D ws0 C hX H1 locs1 _ tys ls lv' _ hK hP1 hD1 hS1 (hR.set h3 ⟨rfl, h5.set hrv f⟩) (by rw [List.length_set]; exact hn) (he.tr hx) (hl.up hx) hls (hst.up hx)
theorem aw_putF {idx ci f q : Nat} {ty : FieldType} {fs : List Value} {v : Value} (hd : decode M.2.1 pc = .ok (.putfield idx, 3)) (hf : putOK M.1.cls idx ci f ty true) (hin : M.1.name = "<init>") (ho : h q = some (.inr (ci, fs))) (hlen : f < fs.length) (hv : vok ty v) (kk : AW X M R gc gs Po PX k j (pc + 3) lv st (va_up h q (some (.inr (ci, fs.set f v)))) n) : AW X M R gc gs Po PX k j pc lv (v :: .ref q :: st) h n := by
  intro p l e s m args below meth c A D ws0 C hX H locs ws tys ls lv' st' hK hP hD hS hR hn he hl hls hst
  obtain ⟨v', st1, rfl, hrv, hst⟩ := hst
  obtain ⟨_, st1, rfl, ⟨a, e1, h2, rfl⟩, hst⟩ := hst
  obtain ⟨Cn, T, N, ref, ty0, c1, c2, c3, c4, c5, c6, c7, c8, c9, c10⟩ := hf
  obtain ⟨a2, e2, h3, h4⟩ := hR q _ ho
  cases h2.symm.trans h3
  match e1, h4, h3 with
  | .inr (ci2, fs2), h4, h3 =>
    obtain ⟨rfl, h5⟩ := h4
    obtain ⟨n1, n2⟩ := hv.conc hrv
    refine va_putF C.1 C.2.1 C.2.2.2.2.1 c2 ty0 c6 c7 C.2.2.2.1 hK hP hD hS q h3 c1 f c3 (C.2.2.2.2.1 _ c4) (same_of C.2.2.2.2.1 c5) c8 (C.2.2.2.2.2.2.2.1.trans hin) (c10 rfl) c9 n1 n2 (by rw [h5.len]; exact hlen) hd (fun H1 locs1 hP1 hD1 hS1 => ?_)
    have hx := ex.set (e := Sum.inr (ci, fs2.set f v')) h3
    exact kk p l e s m args below meth c A D ws0 C hX H1 locs1 _ tys ls lv' _ hK hP1 hD1 hS1 (hR.set h3 ⟨rfl, h5.set hrv f⟩) (by rw [List.length_set]; exact hn) (he.tr hx) (hl.up hx) hls (hst.up hx)
theorem aw_iald {q len : Nat} {f : Nat → Int32} {i : Int32} (hd : decode M.2.1 pc = .ok (.iaload, 1)) (ho : h q = some (.inl (.int, len, .inl f))) (hi : vp_in i len) (kk : AW X M R gc gs Po PX k j (pc + 1) lv (.int (f i.toNatClampNeg) :: st) h n) : AW X M R gc gs Po PX k j pc lv (.int i :: .ref q :: st) h n := by
  intro p l e s m args below meth c A D ws0 C hX H locs ws tys ls lv' st' hK hP hD hS hR hn he hl hls hst
  obtain ⟨_, st1, rfl, rfl, hst⟩ := hst
  obtain ⟨_, st1, rfl, ⟨a, e1, h2, rfl⟩, hst⟩ := hst
  obtain ⟨a2, e2, h3, h4⟩ := hR q _ ho
  cases h2.symm.trans h3
  match e1, h4, h3 with
  | .inl (cA, len2, .inl g), h4, h3 =>
    obtain ⟨⟨t0, ht⟩, h5, h6⟩ := h4
    dsimp only at h5 h6
    subst h5; subst h6
    exact va_iald C.1 C.2.1 hK hP q t0 h3 ht hi hd (kk p l e s m args below meth c A D ws0 C hX H locs ws tys ls lv' _ hK hP hD hS hR hn he hl hls ⟨_, _, rfl, rfl, hst⟩)
theorem aw_iast {q len : Nat} {f : Nat → Int32} {i : Int32} {x : Int32} (hd : decode M.2.1 pc = .ok (.iastore, 1)) (ho : h q = some (.inl (.int, len, .inl f))) (hi : vp_in i len) (kk : AW X M R gc gs Po PX k j (pc + 1) lv st (va_up h q (some (.inl (.int, len, .inl (upd f i.toNatClampNeg x))))) n) : AW X M R gc gs Po PX k j pc lv (.int x :: .int i :: .ref q :: st) h n := by
  intro p l e s m args below meth c A D ws0 C hX H locs ws tys ls lv' st' hK hP hD hS hR hn he hl hls hst
  obtain ⟨_, st1, rfl, rfl, hst⟩ := hst
  obtain ⟨_, st1, rfl, rfl, hst⟩ := hst
  obtain ⟨_, st1, rfl, ⟨a, e1, h2, rfl⟩, hst⟩ := hst
  obtain ⟨a2, e2, h3, h4⟩ := hR q _ ho
  cases h2.symm.trans h3
  match e1, h4, h3 with
  | .inl (cA, len2, .inl g), h4, h3 =>
    obtain ⟨⟨t0, ht⟩, h5, h6⟩ := h4
    dsimp only at h5 h6
    subst h5; subst h6
    refine va_iast C.1 C.2.1 hK hP hD hS q t0 h3 ht hi hd (fun H1 locs1 hP1 hD1 hS1 => ?_)
    have hx := ex.set (e := Sum.inl (cA, len, .inl (upd f i.toNatClampNeg x))) h3
    exact kk p l e s m args below meth c A D ws0 C hX H1 locs1 _ tys ls lv' _ hK hP1 hD1 hS1 (hR.set h3 ⟨⟨t0, ht⟩, rfl, rfl⟩) (by rw [List.length_set]; exact hn) (he.tr hx) (hl.up hx) hls (hst.up hx)
theorem aw_bald {q len : Nat} {f : Nat → Int32} {i : Int32} (hd : decode M.2.1 pc = .ok (.baload, 1)) (ho : h q = some (.inl (.byte, len, .inl f))) (hi : vp_in i len) (kk : AW X M R gc gs Po PX k j (pc + 1) lv (.int (f i.toNatClampNeg) :: st) h n) : AW X M R gc gs Po PX k j pc lv (.int i :: .ref q :: st) h n := by
  intro p l e s m args below meth c A D ws0 C hX H locs ws tys ls lv' st' hK hP hD hS hR hn he hl hls hst
  obtain ⟨_, st1, rfl, rfl, hst⟩ := hst
  obtain ⟨_, st1, rfl, ⟨a, e1, h2, rfl⟩, hst⟩ := hst
  obtain ⟨a2, e2, h3, h4⟩ := hR q _ ho
  cases h2.symm.trans h3
  match e1, h4, h3 with
  | .inl (cA, len2, .inl g), h4, h3 =>
    obtain ⟨⟨t0, ht⟩, h5, h6⟩ := h4
    dsimp only at h5 h6
    subst h5; subst h6
    exact va_bald C.1 C.2.1 hK hP q t0 h3 ht hi hd (kk p l e s m args below meth c A D ws0 C hX H locs ws tys ls lv' _ hK hP hD hS hR hn he hl hls ⟨_, _, rfl, rfl, hst⟩)
theorem aw_bast {q len : Nat} {f : Nat → Int32} {i : Int32} {x : Int32} (hd : decode M.2.1 pc = .ok (.bastore, 1)) (ho : h q = some (.inl (.byte, len, .inl f))) (hi : vp_in i len) (kk : AW X M R gc gs Po PX k j (pc + 1) lv st (va_up h q (some (.inl (.byte, len, .inl (upd f i.toNatClampNeg (vp_nar .byte x)))))) n) : AW X M R gc gs Po PX k j pc lv (.int x :: .int i :: .ref q :: st) h n := by
  intro p l e s m args below meth c A D ws0 C hX H locs ws tys ls lv' st' hK hP hD hS hR hn he hl hls hst
  obtain ⟨_, st1, rfl, rfl, hst⟩ := hst
  obtain ⟨_, st1, rfl, rfl, hst⟩ := hst
  obtain ⟨_, st1, rfl, ⟨a, e1, h2, rfl⟩, hst⟩ := hst
  obtain ⟨a2, e2, h3, h4⟩ := hR q _ ho
  cases h2.symm.trans h3
  match e1, h4, h3 with
  | .inl (cA, len2, .inl g), h4, h3 =>
    obtain ⟨⟨t0, ht⟩, h5, h6⟩ := h4
    dsimp only at h5 h6
    subst h5; subst h6
    refine va_bast C.1 C.2.1 hK hP hD hS q t0 h3 ht hi hd (fun H1 locs1 hP1 hD1 hS1 => ?_)
    have hx := ex.set (e := Sum.inl (cA, len, .inl (upd f i.toNatClampNeg (vp_nar .byte x)))) h3
    exact kk p l e s m args below meth c A D ws0 C hX H1 locs1 _ tys ls lv' _ hK hP1 hD1 hS1 (hR.set h3 ⟨⟨t0, ht⟩, rfl, rfl⟩) (by rw [List.length_set]; exact hn) (he.tr hx) (hl.up hx) hls (hst.up hx)
theorem aw_lald {q len : Nat} {f : Nat → Int64} {i : Int32} (hd : decode M.2.1 pc = .ok (.laload, 1)) (ho : h q = some (.inl (.long, len, .inr (.inl f)))) (hi : vp_in i len) (kk : AW X M R gc gs Po PX k j (pc + 1) lv (.long (f i.toNatClampNeg) :: st) h n) : AW X M R gc gs Po PX k j pc lv (.int i :: .ref q :: st) h n := by
  intro p l e s m args below meth c A D ws0 C hX H locs ws tys ls lv' st' hK hP hD hS hR hn he hl hls hst
  obtain ⟨_, st1, rfl, rfl, hst⟩ := hst
  obtain ⟨_, st1, rfl, ⟨a, e1, h2, rfl⟩, hst⟩ := hst
  obtain ⟨a2, e2, h3, h4⟩ := hR q _ ho
  cases h2.symm.trans h3
  match e1, h4, h3 with
  | .inl (cA, len2, .inr (.inl g)), h4, h3 =>
    obtain ⟨⟨t0, ht⟩, h5, h6⟩ := h4
    dsimp only at h5 h6
    subst h5; subst h6
    exact va_lald C.1 C.2.1 hK hP q t0 h3 ht hi hd (kk p l e s m args below meth c A D ws0 C hX H locs ws tys ls lv' _ hK hP hD hS hR hn he hl hls ⟨_, _, rfl, rfl, hst⟩)
theorem aw_last {q len : Nat} {f : Nat → Int64} {i : Int32} {x : Int64} (hd : decode M.2.1 pc = .ok (.lastore, 1)) (ho : h q = some (.inl (.long, len, .inr (.inl f)))) (hi : vp_in i len) (kk : AW X M R gc gs Po PX k j (pc + 1) lv st (va_up h q (some (.inl (.long, len, .inr (.inl (vp_updL f i.toNatClampNeg x)))))) n) : AW X M R gc gs Po PX k j pc lv (.long x :: .int i :: .ref q :: st) h n := by
  intro p l e s m args below meth c A D ws0 C hX H locs ws tys ls lv' st' hK hP hD hS hR hn he hl hls hst
  obtain ⟨_, st1, rfl, rfl, hst⟩ := hst
  obtain ⟨_, st1, rfl, rfl, hst⟩ := hst
  obtain ⟨_, st1, rfl, ⟨a, e1, h2, rfl⟩, hst⟩ := hst
  obtain ⟨a2, e2, h3, h4⟩ := hR q _ ho
  cases h2.symm.trans h3
  match e1, h4, h3 with
  | .inl (cA, len2, .inr (.inl g)), h4, h3 =>
    obtain ⟨⟨t0, ht⟩, h5, h6⟩ := h4
    dsimp only at h5 h6
    subst h5; subst h6
    refine va_last C.1 C.2.1 hK hP hD hS q t0 h3 ht hi hd (fun H1 locs1 hP1 hD1 hS1 => ?_)
    have hx := ex.set (e := Sum.inl (cA, len, .inr (.inl (vp_updL f i.toNatClampNeg x)))) h3
    exact kk p l e s m args below meth c A D ws0 C hX H1 locs1 _ tys ls lv' _ hK hP1 hD1 hS1 (hR.set h3 ⟨⟨t0, ht⟩, rfl, rfl⟩) (by rw [List.length_set]; exact hn) (he.tr hx) (hl.up hx) hls (hst.up hx)
theorem aw_alen {q len : Nat} {ty : FieldType} {y : (Nat → Int32) ⊕ (Nat → Int64) ⊕ (Nat → UInt32) ⊕ (Nat → UInt64) ⊕ (Nat → Option Nat)} {v : Int32} (hd : decode M.2.1 pc = .ok (.arraylength, 1)) (ho : h q = some (.inl (ty, len, y))) (hv : Int32.ofNat len = v) (kk : AW X M R gc gs Po PX k j (pc + 1) lv (.int v :: st) h n) : AW X M R gc gs Po PX k j pc lv (.ref q :: st) h n := by
  intro p l e s m args below meth c A D ws0 C hX H locs ws tys ls lv' st' hK hP hD hS hR hn he hl hls hst
  obtain ⟨_, st1, rfl, ⟨a, e1, h2, rfl⟩, hst⟩ := hst
  obtain ⟨a2, e2, h3, h4⟩ := hR q _ ho
  cases h2.symm.trans h3
  match e1, h4, h3 with
  | .inl (cA, len2, g), h4, h3 =>
    obtain ⟨⟨t0, ht⟩, h5⟩ := h4
    have h5 : len = len2 := h5.1
    subst h5
    exact va_alen C.1 C.2.1 hK hP q t0 h3 ht hv hd (kk p l e s m args below meth c A D ws0 C hX H locs ws tys ls lv' _ hK hP hD hS hR hn he hl hls ⟨_, _, rfl, rfl, hst⟩)
theorem aw_aald {q len y : Nat} {Cn : String} {f : Nat → Option Nat} {i : Int32} (hd : decode M.2.1 pc = .ok (.aaload, 1)) (ho : h q = some (.inl (.object Cn, len, .inr (.inr (.inr (.inr f)))))) (hi : vp_in i len) (hf : f i.toNatClampNeg = some y) (kk : AW X M R gc gs Po PX k j (pc + 1) lv (.ref y :: st) h n) : AW X M R gc gs Po PX k j pc lv (.int i :: .ref q :: st) h n := by
  intro p l e s m args below meth c A D ws0 C hX H locs ws tys ls lv' st' hK hP hD hS hR hn he hl hls hst
  obtain ⟨_, st1, rfl, rfl, hst⟩ := hst
  obtain ⟨_, st1, rfl, ⟨a, e1, h2, rfl⟩, hst⟩ := hst
  obtain ⟨a2, e2, h3, h4⟩ := hR q _ ho
  cases h2.symm.trans h3
  match e1, h4, h3 with
  | .inl (cA, len2, .inr (.inr (.inr (.inr g)))), h4, h3 =>
    obtain ⟨⟨t0, ht⟩, h5, h6⟩ := h4
    dsimp only at h5
    subst h5
    have h6 := h6 i.toNatClampNeg
    rw [hf] at h6
    obtain ⟨b, e3, h7, h8⟩ := h6
    refine va_aldq C.1 C.2.1 hK hP q t0 h3 ht hi hd ?_
    rw [h8]
    exact kk p l e s m args below meth c A D ws0 C hX H locs ws tys ls lv' _ hK hP hD hS hR hn he hl hls ⟨_, _, rfl, ⟨b, e3, h7, rfl⟩, hst⟩
end AWR
