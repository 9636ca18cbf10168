/-! the words of the tables that hold wherever a method is called, and a machine's run as seen from an abstract heap: objects have numbers, the world is the list of their cells -/
def tb : List Cond := lw_tbl.filter goodWord
theorem tb_of {w : Cond} (i : Nat) (h : lw_tbl[i]? = some w) (g : goodWord w = true) : w ∈ tb := List.mem_filter.mpr ⟨List.mem_of_getElem? h, g⟩
theorem tb_good {w : Cond} (h : w ∈ tb) : (w.onTables && w.keeps) = true ∨ ∃ ty, w = .arrayClass ty := good_of_word (List.mem_filter.mp h).2
abbrev ao : Type := (FieldType × vp_A) ⊕ (Nat × List Value)
abbrev aH : Type := Nat → Option ao
abbrev aT : Type := List (ClassId × FieldType)
/-- the world goes on: a cell keeps its number and address -/
def ex (ws ws' : va_W) : Prop := ∀ (i a : Nat) (e : va_E), ws[i]? = some (a, e) → ∃ e', ws'[i]? = some (a, e')
theorem ex.rf {ws : va_W} : ex ws ws := fun _ _ e h => ⟨e, h⟩
theorem ex.tr {a b c : va_W} (h1 : ex a b) (h2 : ex b c) : ex a c := fun i q e h => by
  obtain ⟨e1, h⟩ := h1 i q e h
  exact h2 i q e1 h
theorem ex.app {ws x : va_W} : ex ws (ws ++ x) := fun i a e h => ⟨e, by rw [List.getElem?_append_left (List.getElem?_eq_some_iff.mp h).1]; exact h⟩
theorem ex.set {ws : va_W} {k a : Nat} {e0 e : va_E} (h : ws[k]? = some (a, e0)) : ex ws (ws.set k (a, e)) := fun i b e1 hi => by
  by_cases hk : k = i
  · subst hk
    rw [h] at hi
    cases hi
    exact ⟨e, by rw [List.getElem?_set_self (List.getElem?_eq_some_iff.mp h).1]⟩
  · exact ⟨e1, by rw [List.getElem?_set_ne hk]; exact hi⟩
/-- a value here, and in the machine: a reference is a number, a float stands for a reference of which nothing is said -/
abbrev rv (ws : va_W) (v v' : Value) : Prop := match v with
  | .ref i => ∃ (a : Nat) (e : va_E), ws[i]? = some (a, e) ∧ v' = .ref a
  | .float _ => ∃ q : Nat, v' = .ref q
  | .int x => v' = .int x
  | .long x => v' = .long x
  | .double x => v' = .double x
  | .null => v' = .null
  | .retAddr x => v' = .ref x
theorem rv.up {ws ws' : va_W} {v v' : Value} (h : ex ws ws') (r : rv ws v v') : rv ws' v v' := by
  cases v with
  | ref i =>
    obtain ⟨a, e, h1, h2⟩ := r
    obtain ⟨e', h3⟩ := h i a e h1
    exact ⟨a, e', h3, h2⟩
  | _ => exact r
theorem rv.cat {ws : va_W} {v v' : Value} (r : rv ws v v') : v'.category = v.category := by
  cases v with
  | ref i => obtain ⟨a, e, h1, rfl⟩ := r; rfl
  | float i => obtain ⟨a, rfl⟩ := r; rfl
  | _ => cases r; rfl
def rs (ws : va_W) : List Value → List Value → Prop
  | [], l => l = []
  | v :: vs, l => ∃ (v' : Value) (l' : List Value), l = v' :: l' ∧ rv ws v v' ∧ rs ws vs l'
theorem rs.up {ws ws' : va_W} (h : ex ws ws') : ∀ {a b : List Value}, rs ws a b → rs ws' a b
  | [], _, r => r
  | _ :: _, _, ⟨v', l', e, r1, r2⟩ => ⟨v', l', e, r1.up h, rs.up h r2⟩
theorem rs.len {ws : va_W} : ∀ {a b : List Value}, rs ws a b → b.length = a.length
  | [], _, r => by cases r; rfl
  | _ :: _, _, ⟨v', l', e, r1, r2⟩ => by cases e; simp [rs.len r2]
theorem rs.cat {ws : va_W} : ∀ {a b : List Value}, rs ws a b → b.map Value.category = a.map Value.category
  | [], _, r => by cases r; rfl
  | _ :: _, _, ⟨v', l', e, r1, r2⟩ => by cases e; simp [rs.cat r2, r1.cat]
theorem rs.get {ws : va_W} : ∀ {a b : List Value} {k : Nat} {v : Value}, rs ws a b → a[k]? = some v → ∃ v', b[k]? = some v' ∧ rv ws v v'
  | [], _, _, _, _, h => by simp at h
  | w :: l, _, 0, v, ⟨v', l', e, r1, r2⟩, h => by cases e; simp at h; cases h; exact ⟨v', by simp, r1⟩
  | w :: l, _, k + 1, v, ⟨v', l', e, r1, r2⟩, h => by cases e; simp at h; obtain ⟨v1, h1, h2⟩ := rs.get r2 h; exact ⟨v1, by simpa using h1, h2⟩
theorem rs.set {ws : va_W} {v v' : Value} (hv : rv ws v v') : ∀ {a b : List Value} (k : Nat), rs ws a b → rs ws (a.set k v) (b.set k v')
  | [], _, _, r => by cases r; simp [rs]
  | w :: l, _, 0, ⟨v', l', e, r1, r2⟩ => by cases e; exact ⟨_, _, rfl, hv, r2⟩
  | w :: l, _, k + 1, ⟨v', l', e, r1, r2⟩ => by cases e; exact ⟨_, _, rfl, r1, rs.set hv k r2⟩
theorem rs.app {ws : va_W} : ∀ {a b c d : List Value}, rs ws a b → rs ws c d → rs ws (a ++ c) (b ++ d)
  | [], _, _, _, r, q => by cases r; exact q
  | _ :: _, _, _, _, ⟨v', l', e, r1, r2⟩, q => by cases e; exact ⟨_, _, rfl, r1, rs.app r2 q⟩
theorem rs.split {ws : va_W} : ∀ {a c b : List Value}, rs ws (a ++ c) b → ∃ b1 b2, b = b1 ++ b2 ∧ rs ws a b1 ∧ rs ws c b2
  | [], _, b, r => ⟨[], b, rfl, rfl, r⟩
  | _ :: _, _, _, ⟨v', l', e, r1, r2⟩ => by
    obtain ⟨b1, b2, h1, h2, h3⟩ := rs.split r2
    exact ⟨v' :: b1, b2, by rw [e, h1]; rfl, ⟨_, _, rfl, r1, h2⟩, h3⟩
theorem rs.rev {ws : va_W} : ∀ {a b : List Value}, rs ws a b → rs ws a.reverse b.reverse
  | [], _, r => by cases r; exact rfl
  | _ :: _, _, ⟨v', l', e, r1, r2⟩ => by
    cases e
    simp only [List.reverse_cons]
    exact rs.app (rs.rev r2) ⟨_, _, rfl, r1, rfl⟩
def rl (ws : va_W) : List (Nat × Value) → List (Nat × Value) → Prop
  | [], l => l = []
  | q :: vs, l => ∃ (v' : Value) (l' : List (Nat × Value)), l = (q.1, v') :: l' ∧ rv ws q.2 v' ∧ rl ws vs l'
theorem rl.up {ws ws' : va_W} (h : ex ws ws') : ∀ {a b : List (Nat × Value)}, rl ws a b → rl ws' a b
  | [], _, r => r
  | _ :: _, _, ⟨v', l', e, r1, r2⟩ => ⟨v', l', e, r1.up h, rl.up h r2⟩
theorem rl.args {ws : va_W} : ∀ {a b : List Value} (i : Nat), rs ws a b → rl ws (lv_args i a) (lv_args i b)
  | [], _, _, r => by cases r; exact rfl
  | v :: vs, _, i, ⟨v', l', e, r1, r2⟩ => by
    cases e
    show rl ws ((i, v) :: lv_args _ vs) ((i, v') :: lv_args _ l')
    rw [r1.cat]
    exact ⟨v', _, rfl, r1, rl.args _ r2⟩
def lget : List (Nat × Value) → Nat → Option Value
  | [], _ => none
  | q :: l, i => if q.1 = i then some q.2 else lget l i
theorem rl.get {ws : va_W} {ls : Array Slot} : ∀ {a b : List (Nat × Value)} {i : Nat} {v : Value}, (∀ q ∈ b, ls[q.1]? = some (.val q.2)) → rl ws a b → lget a i = some v → ∃ v', ls[i]? = some (.val v') ∧ rv ws v v'
  | [], _, _, _, _, _, h => by cases h
  | q :: l, _, i, v, hl, ⟨v', l', e, r1, r2⟩, h => by
    cases e
    unfold lget at h
    by_cases hi : q.1 = i
    · rw [if_pos hi] at h
      cases h
      subst hi
      exact ⟨v', hl (q.1, v') List.mem_cons_self, r1⟩
    · rw [if_neg hi] at h
      exact rl.get (fun z hz => hl z (List.mem_cons_of_mem _ hz)) r2 h
theorem rl.filter1 {ws : va_W} (i : Nat) : ∀ {a b : List (Nat × Value)}, rl ws a b → rl ws (a.filter (fun q => !(q.1 == i) && !(q.1 + 1 == i && q.2.category == 2))) (b.filter (fun q => !(q.1 == i) && !(q.1 + 1 == i && q.2.category == 2)))
  | [], _, r => by cases r; exact rfl
  | q :: l, _, ⟨v', l', e, r1, r2⟩ => by
    cases e
    simp only [List.filter_cons, r1.cat]
    split
    · exact ⟨v', _, rfl, r1, rl.filter1 i r2⟩
    · exact rl.filter1 i r2
theorem rl.filter2 {ws : va_W} (i : Nat) : ∀ {a b : List (Nat × Value)}, rl ws a b → rl ws (a.filter (fun q => !(q.1 == i) && (!(q.1 == i + 1) && !(q.1 + 1 == i && q.2.category == 2)))) (b.filter (fun q => !(q.1 == i) && (!(q.1 == i + 1) && !(q.1 + 1 == i && q.2.category == 2))))
  | [], _, r => by cases r; exact rfl
  | q :: l, _, ⟨v', l', e, r1, r2⟩ => by
    cases e
    simp only [List.filter_cons, r1.cat]
    split
    · exact ⟨v', _, rfl, r1, rl.filter2 i r2⟩
    · exact rl.filter2 i r2
theorem rl.mem {ws : va_W} : ∀ {a b : List (Nat × Value)} {q : Nat × Value}, rl ws a b → q ∈ a → ∃ v', (q.1, v') ∈ b ∧ rv ws q.2 v'
  | [], _, _, _, h => by cases h
  | z :: l, _, q, ⟨v', l', e, r1, r2⟩, h => by
    cases e
    rcases List.mem_cons.mp h with rfl | h
    · exact ⟨v', List.mem_cons_self, r1⟩
    · obtain ⟨v1, h1, h2⟩ := rl.mem r2 h
      exact ⟨v1, List.mem_cons_of_mem _ h1, h2⟩
/-- fewer locals, in any order -/
theorem rl.pick {ws : va_W} {ls : Array Slot} {nL : Nat} {a b : List (Nat × Value)} (hl : lv_has ls nL b) (r : rl ws a b) : ∀ {c : List (Nat × Value)}, (∀ q ∈ c, lget a q.1 = some q.2) → ∃ d, rl ws c d ∧ lv_has ls nL d
  | [], _ => ⟨[], rfl, hl.1, hl.2.1, fun _ h => by cases h⟩
  | q :: c, h => by
    obtain ⟨v', h1, h2⟩ := rl.get hl.2.2 r (h q List.mem_cons_self)
    obtain ⟨d, h3, h4⟩ := rl.pick hl r (c := c) (fun z hz => h z (List.mem_cons_of_mem _ hz))
    refine ⟨(q.1, v') :: d, ⟨v', d, rfl, h2, h3⟩, h4.1, h4.2.1, fun z hz => ?_⟩
    rcases List.mem_cons.mp hz with rfl | hz
    · exact h1
    · exact h4.2.2 z hz
def ra (ws : va_W) (a b : vp_A) : Prop := a.1 = b.1 ∧ match a.2, b.2 with
  | .inl f, .inl g => f = g
  | .inr (.inl f), .inr (.inl g) => f = g
  | .inr (.inr (.inr (.inr f))), .inr (.inr (.inr (.inr g))) => ∀ j : Nat, match f j with
    | none => g j = none
    | some i => ∃ (a : Nat) (e : va_E), ws[i]? = some (a, e) ∧ g j = some a
  | _, _ => False
theorem ra.up {ws ws' : va_W} {a b : vp_A} (h : ex ws ws') (r : ra ws a b) : ra ws' a b := by
  obtain ⟨n, a⟩ := a
  obtain ⟨n', b⟩ := b
  refine ⟨r.1, ?_⟩
  have r := r.2
  match a, b, r with
  | .inl f, .inl g, r => exact r
  | .inr (.inl f), .inr (.inl g), r => exact r
  | .inr (.inr (.inr (.inr f))), .inr (.inr (.inr (.inr g))), r =>
    intro j
    have r := r j
    cases hf : f j with
    | none => rw [hf] at r; exact r
    | some i =>
      rw [hf] at r
      obtain ⟨a, e, h1, h2⟩ := r
      obtain ⟨e', h3⟩ := h i a e h1
      exact ⟨a, e', h3, h2⟩
def rob (ws : va_W) (tys : aT) (o : ao) (e : va_E) : Prop := match o, e with
  | .inl x, .inl y => (∃ t0 : Nat, tys[t0]? = some (y.1, x.1)) ∧ ra ws x.2 y.2
  | .inr x, .inr y => x.1 = y.1 ∧ rs ws x.2 y.2
  | _, _ => False
theorem rob.up {ws ws' : va_W} {tys : aT} {o : ao} {e : va_E} (h : ex ws ws') (x : aT) (r : rob ws tys o e) : rob ws' (tys ++ x) o e := by
  match o, e, r with
  | .inl a, .inl b, r =>
    obtain ⟨⟨t0, h1⟩, h2⟩ := r
    exact ⟨⟨t0, by rw [List.getElem?_append_left (List.getElem?_eq_some_iff.mp h1).1]; exact h1⟩, h2.up h⟩
  | .inr a, .inr b, r => exact ⟨r.1, r.2.up h⟩
/-- what the abstract heap says of a number, its cell holds -/
def rel (h : aH) (ws : va_W) (tys : aT) : Prop := ∀ (k : Nat) (o : ao), h k = some o → ∃ (a : Nat) (e : va_E), ws[k]? = some (a, e) ∧ rob ws tys o e
theorem rel.set {h : aH} {ws : va_W} {tys : aT} (r : rel h ws tys) {k a : Nat} {e0 e : va_E} (hk : ws[k]? = some (a, e0)) {o : ao} (ho : rob ws tys o e) : rel (va_up h k (some o)) (ws.set k (a, e)) tys := by
  have hx : ex ws (ws.set k (a, e)) := ex.set hk
  intro i o1 hi
  by_cases e1 : i = k
  · subst e1
    rw [va_up_self] at hi
    cases hi
    have := ho.up hx []
    rw [List.append_nil] at this
    exact ⟨a, e, by rw [List.getElem?_set_self (List.getElem?_eq_some_iff.mp hk).1], this⟩
  · rw [va_up_ne _ _ e1] at hi
    obtain ⟨b, e2, h1, h2⟩ := r i o1 hi
    have := h2.up hx []
    rw [List.append_nil] at this
    exact ⟨b, e2, by rw [List.getElem?_set_ne (fun z => e1 z.symm)]; exact h1, this⟩
theorem rel.push {h : aH} {ws : va_W} {tys : aT} (r : rel h ws tys) {n q : Nat} (hn : ws.length = n) {e : va_E} {o : ao} (x : aT) (ho : rob (ws ++ [(q, e)]) (tys ++ x) o e) : rel (va_up h n (some o)) (ws ++ [(q, e)]) (tys ++ x) := by
  intro i o1 hi
  by_cases e1 : i = n
  · subst e1
    rw [va_up_self] at hi
    cases hi
    exact ⟨q, e, by rw [← hn]; simp, ho⟩
  · rw [va_up_ne _ _ e1] at hi
    obtain ⟨b, e2, h1, h2⟩ := r i o1 hi
    exact ⟨b, e2, by rw [List.getElem?_append_left (List.getElem?_eq_some_iff.mp h1).1]; exact h1, h2.up ex.app x⟩
