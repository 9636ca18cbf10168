/-! a throw that comes out of a call, caught by this method's table or not: the search over the table's rows, whatever is asked behind it -/
def ftTo (e : Env) (s : State) (f : JFrame) (a : Addr) (x : Handler) (v : Vm) : Prop := ∀ (Q : Handler → Pre) (E : CtlPost) (d : Bool) (acts : List Action), wp (findHandler f a) Q E e d acts s ↔ Q x d acts (s.setVm v)
/-- a row that covers the place and names a class: the search notes the class, then takes the row or goes on -/
theorem ft_row {Q : Handler → Pre} {E : CtlPost} {e : Env} {d : Bool} {acts : List Action} {s : State} {f : JFrame} {a : Addr} {x : ExceptionTableEntry} {t : List ExceptionTableEntry} {c : ClassId} {cell : Cell} (hx : covers x f.pc = true) (h0 : x.catchType ≠ 0)
    (hl : s.vm.ClassLinks e.platform f.method.cls x.catchType c) (hcell : s.heap[a]? = some cell) (hobj : ∀ k, cell.vm ≠ .statics k) (hk : ∃ k, s.vm.classes[cell.cls]? = some k) (hc : ∃ k, s.vm.classes[c]? = some k) :
    (s.vm.assignable cell.cls c = true → (wp (findHandler.go f a (x :: t)) Q E e d acts s ↔ Q (.found x.handlerPc) d acts (s.setVm (s.vm.noted f.method.cls x.catchType (.cls c))))) ∧
    (s.vm.assignable cell.cls c = false → (wp (findHandler.go f a (x :: t)) Q E e d acts s ↔ wp (findHandler.go f a t) Q E e d acts (s.setVm (s.vm.noted f.method.cls x.catchType (.cls c))))) := by
  simp only [covers] at hx
  obtain ⟨ha, ht⟩ := (resolveClass_links e.toSetting hl).op (op := VmOp.resolveClass f.method.cls x.catchType) rfl
  have hal : s.vm.Alike (s.vm.noted f.method.cls x.catchType (.cls c)) := (Vm.Alike.refl s.vm).noted _ _ _
  obtain ⟨k1, hk1⟩ := hk
  obtain ⟨k2, hk2⟩ := hc
  obtain ⟨k1', hk1', -⟩ := hal.2.2 _ _ hk1
  obtain ⟨k2', hk2', -⟩ := hal.2.2 _ _ hk2
  have hsame := hal.assignable cell.cls c
  refine ⟨fun hf => ?_, fun hf => ?_⟩ <;> rw [← hsame] at hf <;> simp [findHandler.go, hx, h0, ha, ht, hcell, hobj, hk1', hk2', hf, VmOp.dirties, VmOp.acts]
/-- rows that are passed, then the row that takes it -/
theorem ft_find {e : Env} {s₀ : State} {f : JFrame} {a : Addr} {cell : Cell} (hobj : ∀ k, cell.vm ≠ .statics k) (hk0 : ∃ k, s₀.vm.classes[cell.cls]? = some k) (x : ExceptionTableEntry) (rest : List ExceptionTableEntry) (hx : covers x f.pc = true) (h0 : x.catchType ≠ 0) {c : ClassId}
    (hl : s₀.vm.ClassLinks e.platform f.method.cls x.catchType c) (hfit : s₀.vm.assignable cell.cls c = true) :
    ∀ (pre : List ExceptionTableEntry) (S : State), s₀.WarmedH S.vm → S.heap[a]? = some cell → (∀ y ∈ pre, covers y f.pc = false ∨ (y.catchType ≠ 0 ∧ ∃ c, s₀.vm.ClassLinks e.platform f.method.cls y.catchType c ∧ s₀.vm.assignable cell.cls c = false)) →
      ∃ v, s₀.WarmedH v ∧ ∀ (Q : Handler → Pre) (E : CtlPost) (d : Bool) (acts : List Action), wp (findHandler.go f a (pre ++ x :: rest)) Q E e d acts S ↔ Q (.found x.handlerPc) d acts (S.setVm v) := by
  obtain ⟨k0, hk0⟩ := hk0
  intro pre
  induction pre with
  | nil =>
    intro S hW hcell _
    obtain ⟨dk, _, _, kt, hd, _, _, _, _, hkt, _, hop⟩ := hl.here
    obtain ⟨k1, hk1, -⟩ := hW.alike.2.2 _ _ hk0
    obtain ⟨k2, hk2, -⟩ := hW.alike.2.2 _ _ hkt
    exact ⟨_, hW.noted hd hop (State.rightAt_cls hl), fun Q E d acts => by
      rw [List.nil_append]
      exact (ft_row hx h0 (hW.classLinks hl) hcell hobj ⟨k1, hk1⟩ ⟨k2, hk2⟩).1 (by rw [hW.alike.assignable]; exact hfit)⟩
  | cons y ys ih =>
    intro S hW hcell hpass
    have hys := fun z hz => hpass z (List.mem_cons_of_mem _ hz)
    by_cases hcov : covers y f.pc = true
    · rcases hpass y List.mem_cons_self with hz | ⟨y0, c2, hl2, hno⟩
      · rw [hz] at hcov; cases hcov
      · obtain ⟨dk, _, _, kt, hd, _, _, _, _, hkt, _, hop⟩ := hl2.here
        obtain ⟨k1, hk1, -⟩ := hW.alike.2.2 _ _ hk0
        obtain ⟨k2, hk2, -⟩ := hW.alike.2.2 _ _ hkt
        obtain ⟨v, hv, hq⟩ := ih (S.setVm (S.vm.noted f.method.cls y.catchType (.cls c2))) (hW.noted hd hop (State.rightAt_cls hl2)) hcell hys
        exact ⟨v, hv, fun Q E d acts => by
          rw [List.cons_append, (ft_row hcov y0 (hW.classLinks hl2) hcell hobj ⟨k1, hk1⟩ ⟨k2, hk2⟩).2 (by rw [hW.alike.assignable]; exact hno)]
          exact hq Q E d acts⟩
    · obtain ⟨v, hv, hq⟩ := ih S hW hcell hys
      exact ⟨v, hv, fun Q E d acts => by
        rw [List.cons_append, Jvm.W.findHandler_go_skip (by simpa using hcov)]
        exact hq Q E d acts⟩
theorem ft_go {tb2 : Tables} {e : Env} {s target : State} {g : JFrame} {c : Code} {below : List Frame} {a : Addr} (h : At s g.method c below) {pc : Nat} {v : Vm}
    (hf : ftTo e ((s.setTop g).pushFrame (.throwing a)) g a (.found pc) v) (hrest : Steps tb2 e below ((s.setVm v).setTop { g with pc := pc, stack := [.ref a] }) target) : Steps tb2 e below ((s.setTop g).pushFrame (.throwing a)) target := by
  obtain ⟨hgo, hw⟩ := h.throwing a
  refine Steps.head hgo hw ?_
  have hst : (stepThrowing e ((s.setTop g).pushFrame (.throwing a)) a (.java g :: (s.frames.tail))).Is ((((s.setTop g).pushFrame (.throwing a)).setVm v).setFrames (.java { g with pc := pc, stack := [.ref a] } :: s.frames.tail)) [] := by
    simp only [stepThrowing, searchFrame, vmDo]
    generalize hr : Sem.go _ e false [] ((s.setTop g).pushFrame (.throwing a)) = res
    obtain ⟨as, rfl, ha⟩ := Sem.eq_ok_of hr (a := Handler.found pc) (s' := ((s.setTop g).pushFrame (.throwing a)).setVm v) (acts' := []) (by simp [hf _ _ _ _])
    exact ⟨rfl, ha⟩
  rw [stepThread_throwing (frames_entered h.top _), hst.1]
  obtain ⟨g₀, hg⟩ := Option.isSome_iff_exists.mp h.top
  obtain ⟨r, hr⟩ := State.topJava?_eq_some.mp hg
  have hr2 : (s.setVm v).frames = .java g₀ :: r := hr
  have hff : ∀ (u : State) (F G : List Frame), ((u.setFrames F).setVm v).setFrames G = (u.setVm v).setFrames G := fun u F G => by
    have h1 : (u.setFrames F).setVm v = (u.setVm v).setFrames F := rfl
    rw [h1, State.setFrames_setFrames]
  rw [State.setTop_of_frames _ hr2] at hrest
  rw [hr, List.tail_cons, State.pushFrame, hff, State.setTop_of_frames _ hr, hff]
  exact hrest
section AWR
variable {X : State → (Nat → Prop) → Prop} {M : aM} {R : Room} {gc gs k j pc n : Nat} {Po : Option Value → aH → Nat → Prop} {PX : String → aH → Nat → Prop} {lv : List (Nat × Value)} {st : List Value} {h : aH}
/-- caught by the row x of this method's table; the rows ahead don't take it -/
theorem aw_catch {E name : String} (pre : List ExceptionTableEntry) (x : ExceptionTableEntry) (suf : List ExceptionTableEntry) (hsp : tableOf M.2.2.2.2 = pre ++ x :: suf)
    (hpass : ∀ z ∈ pre, covers z pc = false ∨ (z.catchType ≠ 0 ∧ ∃ nm : String, Cond.classLink M.1.cls z.catchType nm ∈ tb ∧ (E, nm) ∈ ncs)) (hx : covers x pc = true) (h0 : x.catchType ≠ 0) (hlk : Cond.classLink M.1.cls x.catchType name ∈ tb) (hct : Cond.castable E name ∈ lw_tbl)
    (kk : AW X M R gc gs Po PX k j x.handlerPc lv [.float 0] h n) : AWX X M R gc gs Po PX k j pc lv h n E := by
  intro p l e s m args below meth c A D ws0 C hX H locs ws tys ls lv' rest' hK hP hD hS hR hn he hl hls q ce hce hcv hcl T hT Y
  have hpl : e.platform.magicAccessors = ({} : Platform).magicAccessors := by rw [Y.admits.platform]
  obtain ⟨c3, c4, hc3, hc4, hasg⟩ := C.2.2.2.2.2.2.2.2.2.2.2.2.2.2.1 _ _ hct
  cases Option.some.inj (hc3.symm.trans hcl)
  obtain ⟨c5, hc5, hcl5⟩ := Cond.classLink_spec C.2.2.2.1 (C.2.2.2.2.1 _ hlk) e.platform hpl
  cases Option.some.inj (hc4.symm.trans hc5)
  have hsplit : c.exceptionTable.toList = pre ++ x :: suf := C.2.2.2.2.2.2.2.2.1.trans hsp
  obtain ⟨v, hv, hq⟩ := ft_find (e := e) (s₀ := s) (f := F0 m pc ls rest') (a := q) (cell := ce) (fun z hz => by rw [hcv] at hz; cases hz) (by obtain ⟨k9, h9, -⟩ := Vm.findClass_spec hcl; exact ⟨k9, h9⟩) x suf hx h0 hcl5 hasg pre ((T.setTop (F0 m pc ls rest')).pushFrame (.throwing q)) Y.warmed (by show T.heap[q]? = some ce; rw [hT]; exact hce)
    (fun z hz => by
      rcases hpass z hz with h1 | ⟨hz0, nm, hl1, hn1⟩
      · exact Or.inl h1
      · obtain ⟨c6, hc6, hcl6⟩ := Cond.classLink_spec C.2.2.2.1 (C.2.2.2.2.1 _ hl1) e.platform hpl
        obtain ⟨a8, b8, h1, h2, h3⟩ := C.2.2.2.2.2.2.2.2.2.2.2.2.2.2.2.2.2.2.1 _ _ hn1
        cases Option.some.inj (h1.symm.trans hcl)
        cases Option.some.inj (h2.symm.trans hc6)
        exact Or.inr ⟨hz0, _, hcl6, h3⟩)
  have hf : ftTo e ((T.setTop (F0 m pc ls rest')).pushFrame (.throwing q)) (F0 m pc ls rest') q (.found x.handlerPc) v := fun Q E d acts => by
    rw [Jvm.W.findHandler_eq (meth := meth) (code := c) Y.method' Y.code, hsplit]
    exact hq Q E d acts
  obtain ⟨t, a1, b1⟩ := kk p l e s m args below meth c A D ws0 C hX H locs ws tys ls lv' [.ref q] hK hP hD hS hR hn he hl hls ⟨_, _, rfl, ⟨q, rfl⟩, rfl⟩ (T.setVm v) hT (Y.noted hv)
  exact ⟨t, ft_go Y.here hf a1, b1⟩
end AWR
