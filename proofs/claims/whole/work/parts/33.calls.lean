/-! a dispatched call that may throw -/
section VXU
variable {p : Program} {l : Launch} {e : Env} {R : Room} {s : State} {m : MethodId} {args : Array Value} {below : List Frame} {meth : Method} {c : Code} {H : Heap} {locs : List Loc} {cells slots : Nat}
theorem vx_callVU {T : State} (X : Stand p l e R s m args below meth c T locs cells slots) (hexec : p.tables.exec = Jvm.exec) {own C owner : String} {index : Nat} {x y : MethodName}
    (hown : s.vm.findClass own = some m.cls) (hlink : (Cond.methodLink own index x).before args s = true) (hsame : (Cond.sameMethod x.cls owner x.name x.desc).before args s = true)
    (hd0 : va_Decl s ⟨owner, x.name, x.desc⟩) (howner : owner ≠ "java/lang/invoke/MethodHandle" ∧ owner ≠ "java/lang/invoke/VarHandle")
    (hsel : (Cond.selects C x y).before args s = true) (hinst : (Cond.instanceMethod y).before args s = true)
    {W9 : Nat} {Pre : Pt → Array Value → Prop} {Post : Pt → Array Value → Option Value → Pt → Prop} {PostX : Pt → Array Value → Addr → Pt → Prop} (hK : vx_Back l R p e below s args y 3 W9 Pre Post PostX)
    {b : Addr} {cellB : Cell} (hcell : T.heap[b]? = some cellB) (hobj : cellB.vm.isStatics = false) (hcls : s.vm.findClass C = some cellB.cls)
    {g : JFrame} (hg : g.method = m) (hsize : g.locals.size = c.maxLocals) {argsL rest : List Value} (hlen : ∀ sig, parseMethodDescriptor x.desc = some sig → argsL.length = sig.parameters.length)
    (hstack : g.stack = argsL.reverse ++ .ref b :: rest) (hW : 2 * g.monitorRoom + (rest.map fun v => v.category).sum ≤ W9) (hdg : decode c.code g.pc = .ok (.invokevirtual index, 3))
    (hpre : ∀ vm₁, s.WarmedH vm₁ → Pre ⟨T.setVm vm₁, locs, cells, slots⟩ (Value.ref b :: argsL).toArray) :
    (∃ (v : Option Value) (vm₁ : Vm) (B : Pt), s.WarmedH vm₁ ∧ Stand p l e R s m args below meth c B.U B.locs B.cells B.slots ∧ Post ⟨T.setVm vm₁, locs, cells, slots⟩ (Value.ref b :: argsL).toArray v B ∧
      ∀ target, Steps p.tables e below (B.U.setTop { g with pc := g.pc + 3, stack := v.toList ++ rest }) target → Steps p.tables e below (T.setTop g) target) ∨
    (∃ (q : Addr) (vm₁ : Vm) (B : Pt), s.WarmedH vm₁ ∧ Stand p l e R s m args below meth c B.U B.locs B.cells B.slots ∧ PostX ⟨T.setVm vm₁, locs, cells, slots⟩ (Value.ref b :: argsL).toArray q B ∧
      Steps p.tables e below (T.setTop g) ((B.U.setTop { g with stack := rest }).pushFrame (.throwing q))) := by
  obtain ⟨r0, r, hn, hrm, hstR, hsigR⟩ := hd0
  obtain ⟨cn, ck, r1, hcn, hck, hni, hf, hn1⟩ := Cond.sameMethod_found hsame
  cases hn.symm.trans hn1
  obtain ⟨mk, methM, hnamed, hmethM, -, habM⟩ := Cond.instanceMethod_spec hinst
  obtain ⟨c2, r2, m2, q1, q2, q3, q4, kP, hkP, hkPi⟩ := Cond.selects_spec hsel
  cases hcls.symm.trans q1
  cases hf.symm.trans q2
  cases hnamed.symm.trans q3
  have hselP : selectMethod e.platform s.vm cellB.cls r0 = .method mk := by rw [Launch.admits_selectMethod X.admits]; exact q4
  obtain ⟨vm₁, X₁, hstep₁⟩ := X.invokevirtualUp hexec hown hlink hsame howner hn hrm hstR (a := b) (cell := cellB) hcell
    (fun z h => by rw [h] at hobj; cases hobj) hselP hmethM habM hkP hkPi (g := g) hg (argsL := argsL) (rest := rest) (hlen _ hsigR) hstack hdg
  rcases hK m meth c ⟨T.setVm vm₁, locs, cells, slots⟩ { g with stack := rest } (.invokevirtual index) mk (Value.ref b :: argsL).toArray X₁ hg hsize hdg hW (X₁.named hnamed) (hpre vm₁ X₁.warmed) with ⟨v, B, X', hpost, hsteps⟩ | ⟨q, B, X', hpost, hsteps⟩
  · exact Or.inl ⟨v, vm₁, B, X₁.warmed, X', hpost, fun target h => hstep₁ _ fun acts => by rw [doInvoke_state]; exact hsteps.trans h⟩
  · exact Or.inr ⟨q, vm₁, B, X₁.warmed, X', hpost, hstep₁ _ fun acts => by rw [doInvoke_state]; exact hsteps⟩
theorem vx_runU {x y : MethodName} {bytes cc : ByteArray} {maxL nL mc ms n index : Nat} {ret : Option FieldType} {ws : List Cond} {rm : Room} {Pc : Array Value → State → Prop} {Qc : Array Value → State → Outcome → State → Prop} {XC : String → State → State → Prop} {free : Addr → Prop} {Ts : List Cond} {own C owner : String} {b : Addr} {As rest : List Value} {g : JFrame}
    (S : CallFix p m c cc nL s args Ts own) (hM : vx_Met l y ws rm Pc Qc XC mc ms free) (cw : va_CU R s args own C owner index x y bytes maxL ret ws rm mc ms n) (hp : PreV s H C b Pc As)
    (hg : g.method = m) (hn : As.length = n) (hsize : g.locals.size = nL) (hstack : g.stack = As.reverse ++ .ref b :: rest) (hW : 2 * g.monitorRoom + (rest.map fun v => v.category).sum ≤ 8) (hdg : decode cc g.pc = .ok (.invokevirtual index, 3)) (hf : cells + mc ≤ R.cells ∧ slots + ms ≤ R.slots) :
    vx_Run p l e R s m args below meth c H locs cells slots mc ms g rest (Qc (Value.ref b :: As).toArray) XC free := by
  obtain ⟨hrc, hrs, hfr, hlo, hws, hcw⟩ := cw.back
  have hini := cw.init
  have hK : vx_Back l R p e below s args y 3 8 (PreOf R mc ms Pc) (PostOf Qc mc ms free) (vx_Post XC mc ms free) := vx_back (bytes := bytes) (maxL := maxL) (ret := ret) hM hp.1 hrc hrs hfr hlo hws hcw (fun a' U hW => word_at hW (Or.inl (by first | rfl | simp [Cond.onTables, Cond.keeps, Cond.steady])) hini)
  obtain ⟨hx, hb, hml, ho, -⟩ := S
  obtain ⟨-, ⟨cellB, hcB, hoB, hclB⟩, hPc⟩ := hp
  intro T hT X
  rcases vx_callVU X hx (C := C) (owner := owner) ho cw.link cw.same cw.decl cw.notMH cw.sel cw.inst hK (by rw [hT]; exact hcB) hoB hclB hg (hsize.trans hml.symm) (argsL := As) (rest := rest) (fun sig h => hn.trans (cw.len sig h)) hstack hW (by rw [hb]; exact hdg)
    (fun vm₁ hW₁ => ⟨hf.1, hf.2, hPc (T.setVm vm₁) hT hW₁⟩) with ⟨v, vm₁, ⟨U', l2, c2, s2⟩, hW₁, X', ⟨g', mk, t, L, e1, e2, hq, h1, hL, h2, h3⟩, st⟩ | ⟨q, vm₁, ⟨U', l2, c2, s2⟩, hW₁, X', ⟨g', mk, t, L, E, ce, e1, e2, hq, hce, hcv, hcl, h1, hL, h2, h3⟩, st⟩
  · dsimp only [Pt.U, Pt.locs, Pt.cells, Pt.slots] at X' e1 e2 h1 h2 h3 st
    subst h1; subst h2; subst h3
    exact Or.inl ⟨v, (T.setVm vm₁).calling g' mk (Value.ref b :: As).toArray, t, U', L, hT, X', hL, e1, e2, hq, st⟩
  · dsimp only [Pt.U, Pt.locs, Pt.cells, Pt.slots] at X' e1 e2 h1 h2 h3 st hcl
    subst h1; subst h2; subst h3
    exact Or.inr ⟨q, (T.setVm vm₁).calling g' mk (Value.ref b :: As).toArray, t, U', L, E, ce, hT, X', hL, e1, e2, hq, hce, hcv, vx_cls hW₁ hcl, st⟩
end VXU
abbrev nMH (c : String) : Prop := c ≠ "java/lang/invoke/MethodHandle" ∧ c ≠ "java/lang/invoke/VarHandle"
/-- what a dispatched call asks of the tables -/
def cuOK (own : String) (idx : Nat) (Cn : String) (x : MethodName) (M2 : aM) (na : Nat) : Prop := Cond.methodLink own idx x ∈ tb ∧ Cond.sameMethod x.cls x.cls x.name x.desc ∈ tb ∧ Cond.selects Cn x M2.1 ∈ tb ∧ Cond.instanceMethod M2.1 ∈ tb ∧ Cond.initialized M2.1.cls ∈ tb ∧ Cond.code M2.1 M2.2.1 M2.2.2.1 M2.2.2.2.1 ∈ tb ∧ M2.2.2.2.2 = [] ∧ Cond.declares ⟨x.cls, x.name, x.desc⟩ ∈ lw_tbl ∧ nMH x.cls ∧ (parseMethodDescriptor x.desc).map (fun d => d.parameters.length) = some na
/-- what a call of a method with a table asks -/
def cxOK (own : String) (idx : Nat) (M2 : aM) (na : Nat) : Prop := Cond.methodLink own idx M2.1 ∈ tb ∧ Cond.initialized M2.1.cls ∈ tb ∧ Cond.codeWith M2.1 M2.2.1 M2.2.2.1 M2.2.2.2.1 M2.2.2.2.2 ∈ tb ∧ M2.2.2.2.2 ≠ [] ∧ nMH M2.1.cls ∧ (parseMethodDescriptor M2.1.desc).map (fun d => d.parameters.length) = some na
theorem wsM_codeWith {M : aM} (h : Cond.codeWith M.1 M.2.1 M.2.2.1 M.2.2.2.1 M.2.2.2.2 ∈ tb) (ht : M.2.2.2.2 ≠ []) : GoodIn tb (wsM M) ∧ wsM M = Cond.codeWith M.1 M.2.1 M.2.2.1 M.2.2.2.1 M.2.2.2.2 :: tb := by
  refine ⟨wsM_good (by rw [if_neg ht]; exact h), ?_⟩
  unfold wsM
  rw [if_neg ht]
theorem lenOf {d : String} {na : Nat} (h : (parseMethodDescriptor d).map (fun d => d.parameters.length) = some na) : ∀ sig, parseMethodDescriptor d = some sig → na = sig.parameters.length := by
  intro sig hs
  rw [hs] at h
  exact (Option.some.inj h).symm
section AWR
variable {X : State → (Nat → Prop) → Prop} {M : aM} {R : Room} {gc gs k j pc n : Nat} {Po : Option Value → aH → Nat → Prop} {PX : String → aH → Nat → Prop} {lv : List (Nat × Value)} {st : List Value} {h : aH}
variable {M2 : aM} {Po2 : Option Value → aH → Nat → Prop} {PX2 : String → aH → Nat → Prop} {d2 mc2 ms2 gc2 gs2 idx na : Nat} {av st0 : List Value}

theorem aw_callU {q : Nat} {x : MethodName} (hd : decode M.2.1 pc = .ok (.invokevirtual idx, 3)) {ci : Nat} {fs : List Value} (ho : h q = some (.inr (ci, fs))) (hw : ∃ (Cn : String) (T : u_T) (N : Nat), vwCl[ci]? = some (Cn, T, N) ∧ cuOK M.1.cls idx Cn x M2 na) (hs : st0 = av.reverse ++ .ref q :: st) (hc : AM M2 d2 (.ref q :: av) h n mc2 ms2 gc2 gs2 Po2 PX2) (hna : av.length = na) (hsum : (st.map Value.category).sum ≤ 8) (hfr : 2 * d2 + 1 ≤ R.frames) (hlo : 8 + (M2.2.2.1 + 11) + 60 * d2 ≤ R.locals) (hcl : k + mc2 ≤ R.cells) (hsl : j + ms2 ≤ R.slots) (kx : ∀ (E : String) (h2 : aH) (n2 : Nat), PX2 E h2 n2 → AWX X M R gc gs Po PX (k + mc2) (j + ms2) pc lv h2 n2 E) (kk : ∀ (r : Option Value) (h2 : aH) (n2 : Nat), Po2 r h2 n2 → AW X M R gc gs Po PX (k + gc2) (j + gs2) (pc + 3) lv (r.toList ++ st) h2 n2) : AW X M R gc gs Po PX k j pc lv st0 h n := by
  intro p l e s m args below meth c A D ws0 C hX H locs ws tys ls lv' st' hK hP hD hS hR hn he hl hls hst
  subst hs
  obtain ⟨b1, b2, rfl, hb1, _, rest', rfl, ⟨a, e1, hq1, rfl⟩, hst2⟩ := hst.split
  have hav1 : rs ws av b1.reverse := by have := hb1.rev; rwa [List.reverse_reverse] at this
  have hav : rs ws (.ref q :: av) (.ref a :: b1.reverse) := ⟨_, _, rfl, ⟨a, e1, hq1, rfl⟩, hav1⟩
  obtain ⟨Cn, T, N, w7, w1, w2, w3, w4, w5, w6, w8, w9, w10, w11⟩ := hw
  have hG := (wsM_code w6 w8)
  have hcu : va_CU R s args M.1.cls Cn x.cls idx x M2.1 M2.2.1 M2.2.2.1 M2.2.2.2.1 (wsM M2) (rmD d2 mc2 ms2) mc2 ms2 na := ⟨⟨rfl, rfl, hfr, hlo, pay_in C.2.2.2.2.1 hG.1, by rw [hG.2]; exact List.mem_cons_self⟩, C.2.2.2.2.1 _ w6, C.2.2.2.2.1 _ w5, w10, lenOf w11, C.2.2.2.2.1 _ w1, C.2.2.2.2.1 _ w2, va_Decl.abs (C.2.2.2.2.2.2.2.2.2.2.2.2.1 _ w9), C.2.2.2.2.1 _ w3, C.2.2.2.2.1 _ w4⟩
  have hM := hc l D ws tys _ H.size C.2.2.2.2.2.2.2.2.2.2.1 hR hn hav
  have hpre := aw_pre (av' := .ref a :: b1.reverse) C hK hP hD hS
  refine aw_back kk kx C hX hD hS he hl hls hst2 (vx_runU (C := Cn) (As := b1.reverse) (nL := M.2.2.1) ⟨C.1, C.2.1, C.2.2.1, C.2.2.2.1, C.2.2.2.2.1⟩ hM hcu ⟨hpre.1, ?_, hpre.2⟩ rfl (by rw [List.length_reverse, hb1.len, List.length_reverse]; exact hna) hls.1 (by rw [List.reverse_reverse]) (lv_room (by rw [show (rest'.map fun v => v.category) = rest'.map Value.category from rfl, hst2.cat]; exact hsum)) hd ⟨hcl, hsl⟩)
  obtain ⟨a2, e2, h3, h4⟩ := hR q _ ho
  cases hq1.symm.trans h3
  match e1, h4, h3 with
  | .inr (ci2, fs2), h4, h3 =>
    obtain ⟨rfl, -⟩ := h4
    exact va_recv hK hP w7 h3
theorem aw_callVX {q : Nat} (hd : decode M.2.1 pc = .ok (.invokevirtual idx, 3)) {ci : Nat} {fs : List Value} (ho : h q = some (.inr (ci, fs))) (hw : cxOK M.1.cls idx M2 na ∧ Cond.instanceMethod M2.1 ∈ tb ∧ ∃ (Cn : String) (T : u_T) (N : Nat), vwCl[ci]? = some (Cn, T, N) ∧ Cond.selects Cn M2.1 M2.1 ∈ tb) (hs : st0 = av.reverse ++ .ref q :: st) (hc : AM M2 d2 (.ref q :: av) h n mc2 ms2 gc2 gs2 Po2 PX2) (hna : av.length = na) (hsum : (st.map Value.category).sum ≤ 8) (hfr : 2 * d2 + 1 ≤ R.frames) (hlo : 8 + (M2.2.2.1 + 11) + 60 * d2 ≤ R.locals) (hcl : k + mc2 ≤ R.cells) (hsl : j + ms2 ≤ R.slots) (kx : ∀ (E : String) (h2 : aH) (n2 : Nat), PX2 E h2 n2 → AWX X M R gc gs Po PX (k + mc2) (j + ms2) pc lv h2 n2 E) (kk : ∀ (r : Option Value) (h2 : aH) (n2 : Nat), Po2 r h2 n2 → AW X M R gc gs Po PX (k + gc2) (j + gs2) (pc + 3) lv (r.toList ++ st) h2 n2) : AW X M R gc gs Po PX k j pc lv st0 h n := by
  intro p l e s m args below meth c A D ws0 C hX H locs ws tys ls lv' st' hK hP hD hS hR hn he hl hls hst
  subst hs
  obtain ⟨b1, b2, rfl, hb1, _, rest', rfl, ⟨a, e1, hq1, rfl⟩, hst2⟩ := hst.split
  have hav1 : rs ws av b1.reverse := by have := hb1.rev; rwa [List.reverse_reverse] at this
  have hav : rs ws (.ref q :: av) (.ref a :: b1.reverse) := ⟨_, _, rfl, ⟨a, e1, hq1, rfl⟩, hav1⟩
  obtain ⟨⟨w1, w2, w3, w4, w5, w9⟩, w6, Cn, T, N, w7, w8⟩ := hw
  have hG := (wsM_codeWith w3 w4)
  have hcu : vx_CVW R s args M.1.cls Cn idx M2.1 M2.2.1 M2.2.2.1 M2.2.2.2.1 M2.2.2.2.2 (wsM M2) (rmD d2 mc2 ms2) mc2 ms2 na := ⟨⟨rfl, rfl, hfr, hlo, pay_in C.2.2.2.2.1 hG.1, by rw [hG.2]; exact List.mem_cons_self⟩, C.2.2.2.2.1 _ w3, C.2.2.2.2.1 _ w2, w5, lenOf w9, C.2.2.2.2.1 _ w1, C.2.2.2.2.1 _ w6, C.2.2.2.2.1 _ w8⟩
  have hM := hc l D ws tys _ H.size C.2.2.2.2.2.2.2.2.2.2.1 hR hn hav
  have hpre := aw_pre (av' := .ref a :: b1.reverse) C hK hP hD hS
  refine aw_back kk kx C hX hD hS he hl hls hst2 (vx_runVX (C := Cn) (As := b1.reverse) (nL := M.2.2.1) ⟨C.1, C.2.1, C.2.2.1, C.2.2.2.1, C.2.2.2.2.1⟩ hM hcu ⟨hpre.1, ?_, hpre.2⟩ rfl (by rw [List.length_reverse, hb1.len, List.length_reverse]; exact hna) hls.1 (by rw [List.reverse_reverse]) (lv_room (by rw [show (rest'.map fun v => v.category) = rest'.map Value.category from rfl, hst2.cat]; exact hsum)) hd ⟨hcl, hsl⟩)
  obtain ⟨a2, e2, h3, h4⟩ := hR q _ ho
  cases hq1.symm.trans h3
  match e1, h4, h3 with
  | .inr (ci2, fs2), h4, h3 =>
    obtain ⟨rfl, -⟩ := h4
    exact va_recv hK hP w7 h3
theorem aw_callSX (hd : decode M.2.1 pc = .ok (.invokestatic idx, 3)) (hw : cxOK M.1.cls idx M2 na ∧ Cond.static M2.1 ∈ tb) (hs : st0 = av.reverse ++ st) (hc : AM M2 d2 av h n mc2 ms2 gc2 gs2 Po2 PX2) (hna : av.length = na) (hsum : (st.map Value.category).sum ≤ 8) (hfr : 2 * d2 + 1 ≤ R.frames) (hlo : 8 + (M2.2.2.1 + 11) + 60 * d2 ≤ R.locals) (hcl : k + mc2 ≤ R.cells) (hsl : j + ms2 ≤ R.slots) (kx : ∀ (E : String) (h2 : aH) (n2 : Nat), PX2 E h2 n2 → AWX X M R gc gs Po PX (k + mc2) (j + ms2) pc lv h2 n2 E) (kk : ∀ (r : Option Value) (h2 : aH) (n2 : Nat), Po2 r h2 n2 → AW X M R gc gs Po PX (k + gc2) (j + gs2) (pc + 3) lv (r.toList ++ st) h2 n2) : AW X M R gc gs Po PX k j pc lv st0 h n := by
  intro p l e s m args below meth c A D ws0 C hX H locs ws tys ls lv' st' hK hP hD hS hR hn he hl hls hst
  subst hs
  obtain ⟨b1, rest', rfl, hb1, hst2⟩ := hst.split
  have hav : rs ws av b1.reverse := by have := hb1.rev; rwa [List.reverse_reverse] at this
  obtain ⟨⟨w1, w2, w3, w4, w5, w9⟩, w6⟩ := hw
  have hG := (wsM_codeWith w3 w4)
  have hcu : vx_CSW R s args M.1.cls idx M2.1 M2.2.1 M2.2.2.1 M2.2.2.2.1 M2.2.2.2.2 (wsM M2) (rmD d2 mc2 ms2) mc2 ms2 na := ⟨⟨rfl, rfl, hfr, hlo, pay_in C.2.2.2.2.1 hG.1, by rw [hG.2]; exact List.mem_cons_self⟩, C.2.2.2.2.1 _ w3, C.2.2.2.2.1 _ w2, w5, lenOf w9, C.2.2.2.2.1 _ w1, C.2.2.2.2.1 _ w6⟩
  have hM := hc l D ws tys _ H.size C.2.2.2.2.2.2.2.2.2.2.1 hR hn hav
  have hpre := aw_pre (av' := b1.reverse) C hK hP hD hS
  exact aw_back kk kx C hX hD hS he hl hls hst2 (vx_runSX (As := b1.reverse) (nL := M.2.2.1) ⟨C.1, C.2.1, C.2.2.1, C.2.2.2.1, C.2.2.2.2.1⟩ hM hcu hpre rfl (by rw [List.length_reverse, hb1.len, List.length_reverse]; exact hna) hls.1 (by rw [List.reverse_reverse]) (lv_room (by rw [show (rest'.map fun v => v.category) = rest'.map Value.category from rfl, hst2.cat]; exact hsum)) hd ⟨hcl, hsl⟩)
end AWR
theorem tw589 : Cond.methodLink RX10 221 ⟨"RasterMint$Format", "encode", "(LRasterMint$Raster;ILRasterMint$ByteRow;)V"⟩ ∈ tb := tc2 (i := 229) (by decide +kernel) rfl
theorem tw591 : Cond.sameMethod "RasterMint$Format" "RasterMint$Format" "encode" "(LRasterMint$Raster;ILRasterMint$ByteRow;)V" ∈ tb := tc2 (i := 231) (by decide +kernel) rfl
theorem tw700 : Cond.selects RX6 ⟨"RasterMint$Format", "encode", "(LRasterMint$Raster;ILRasterMint$ByteRow;)V"⟩ yX6_encode ∈ tb := tc3 (i := 100) (by decide +kernel) rfl
theorem tw701 : Cond.instanceMethod yX6_encode ∈ tb := tc3 (i := 101) (by decide +kernel) rfl
set_option maxRecDepth 20000 in
theorem tw702 : Cond.code yX6_encode cX6_encode 4 none ∈ tb := tc3 (i := 102) rfl rfl
theorem cuX10_221_5 : ∃ (Cn : String) (T : u_T) (N : Nat), vwCl[5]? = some (Cn, T, N) ∧ cuOK RX10 221 Cn ⟨"RasterMint$Format", "encode", "(LRasterMint$Raster;ILRasterMint$ByteRow;)V"⟩ mX6_encode 3 := ⟨RX6, TX6, 5, rfl, tw589, tw591, tw700, tw701, tw127, tw702, rfl, tl2 (List.mem_of_getElem? (i := 230) (by decide +kernel)), by decide +kernel, by decide +kernel⟩
theorem tw672 : Cond.selects RX5 ⟨"RasterMint$Format", "encode", "(LRasterMint$Raster;ILRasterMint$ByteRow;)V"⟩ yX5_encode ∈ tb := tc3 (i := 72) (by decide +kernel) rfl
theorem tw673 : Cond.instanceMethod yX5_encode ∈ tb := tc3 (i := 73) (by decide +kernel) rfl
set_option maxRecDepth 20000 in
theorem tw674 : Cond.code yX5_encode cX5_encode 4 none ∈ tb := tc3 (i := 74) rfl rfl
theorem cuX10_221_4 : ∃ (Cn : String) (T : u_T) (N : Nat), vwCl[4]? = some (Cn, T, N) ∧ cuOK RX10 221 Cn ⟨"RasterMint$Format", "encode", "(LRasterMint$Raster;ILRasterMint$ByteRow;)V"⟩ mX5_encode 3 := ⟨RX5, TX5, 4, rfl, tw589, tw591, tw672, tw673, tw128, tw674, rfl, tl2 (List.mem_of_getElem? (i := 230) (by decide +kernel)), by decide +kernel, by decide +kernel⟩
theorem tw592 : Cond.selects RX0 ⟨"RasterMint$Format", "encode", "(LRasterMint$Raster;ILRasterMint$ByteRow;)V"⟩ yX0_encode ∈ tb := tc2 (i := 232) (by decide +kernel) rfl
theorem tw593 : Cond.instanceMethod yX0_encode ∈ tb := tc2 (i := 233) (by decide +kernel) rfl
set_option maxRecDepth 20000 in
theorem tw594 : Cond.code yX0_encode cX0_encode 7 none ∈ tb := tc2 (i := 234) rfl rfl
theorem cuX10_221_0 : ∃ (Cn : String) (T : u_T) (N : Nat), vwCl[0]? = some (Cn, T, N) ∧ cuOK RX10 221 Cn ⟨"RasterMint$Format", "encode", "(LRasterMint$Raster;ILRasterMint$ByteRow;)V"⟩ mX0_encode 3 := ⟨RX0, TX0, 12, rfl, tw589, tw591, tw592, tw593, tw129, tw594, rfl, tl2 (List.mem_of_getElem? (i := 230) (by decide +kernel)), by decide +kernel, by decide +kernel⟩
theorem tw748 : Cond.selects RX9 ⟨"RasterMint$Format", "encode", "(LRasterMint$Raster;ILRasterMint$ByteRow;)V"⟩ yX9_encode ∈ tb := tc3 (i := 148) (by decide +kernel) rfl
theorem tw749 : Cond.instanceMethod yX9_encode ∈ tb := tc3 (i := 149) (by decide +kernel) rfl
set_option maxRecDepth 20000 in
theorem tw750 : Cond.code yX9_encode cX9_encode 9 none ∈ tb := tc3 (i := 150) rfl rfl
theorem cuX10_221_8 : ∃ (Cn : String) (T : u_T) (N : Nat), vwCl[8]? = some (Cn, T, N) ∧ cuOK RX10 221 Cn ⟨"RasterMint$Format", "encode", "(LRasterMint$Raster;ILRasterMint$ByteRow;)V"⟩ mX9_encode 3 := ⟨RX9, TX9, 17, rfl, tw589, tw591, tw748, tw749, tw130, tw750, rfl, tl2 (List.mem_of_getElem? (i := 230) (by decide +kernel)), by decide +kernel, by decide +kernel⟩
theorem tw643 : Cond.selects RX4 ⟨"RasterMint$Format", "encode", "(LRasterMint$Raster;ILRasterMint$ByteRow;)V"⟩ yX4_encode ∈ tb := tc3 (i := 43) (by decide +kernel) rfl
theorem tw644 : Cond.instanceMethod yX4_encode ∈ tb := tc3 (i := 44) (by decide +kernel) rfl
set_option maxRecDepth 20000 in
theorem tw645 : Cond.code yX4_encode cX4_encode 8 none ∈ tb := tc3 (i := 45) rfl rfl
theorem cuX10_221_3 : ∃ (Cn : String) (T : u_T) (N : Nat), vwCl[3]? = some (Cn, T, N) ∧ cuOK RX10 221 Cn ⟨"RasterMint$Format", "encode", "(LRasterMint$Raster;ILRasterMint$ByteRow;)V"⟩ mX4_encode 3 := ⟨RX4, TX4, 10, rfl, tw589, tw591, tw643, tw644, tw131, tw645, rfl, tl2 (List.mem_of_getElem? (i := 230) (by decide +kernel)), by decide +kernel, by decide +kernel⟩
theorem tw836 : Cond.methodLink RX10 110 yX10_takeIn ∈ tb := tc3 (i := 236) (by decide +kernel) rfl
set_option maxRecDepth 20000 in
theorem tw839 : Cond.codeWith yX10_takeIn cX10_takeIn 6 (some .int) [(27, 40, 43, 207)] ∈ tb := tc3 (i := 239) rfl rfl
theorem tw838 : Cond.instanceMethod yX10_takeIn ∈ tb := tc3 (i := 238) (by decide +kernel) rfl
theorem tw18 : Cond.selects RX10 yX10_takeIn yX10_takeIn ∈ tb := tb_of 18 (by decide +kernel) rfl
theorem cxX10_110 : cxOK RX10 110 mX10_takeIn 3 ∧ Cond.instanceMethod mX10_takeIn.1 ∈ tb ∧ ∃ (Cn : String) (T : u_T) (N : Nat), vwCl[9]? = some (Cn, T, N) ∧ Cond.selects Cn mX10_takeIn.1 mX10_takeIn.1 ∈ tb := ⟨⟨tw836, tw121, tw839, by decide, by decide +kernel, by decide +kernel⟩, tw838, RX10, TX10, 9, rfl, tw18⟩
theorem tw845 : Cond.methodLink RX10 203 ⟨"RasterMint$Format", "decode", "(LRasterMint$Source;LRasterMint$Raster;)V"⟩ ∈ tb := tc4 (i := 5) (by decide +kernel) rfl
theorem tw847 : Cond.sameMethod "RasterMint$Format" "RasterMint$Format" "decode" "(LRasterMint$Source;LRasterMint$Raster;)V" ∈ tb := tc4 (i := 7) (by decide +kernel) rfl
theorem tw1153 : Cond.selects RX6 ⟨"RasterMint$Format", "decode", "(LRasterMint$Source;LRasterMint$Raster;)V"⟩ yX6_decode ∈ tb := tc5 (i := 73) (by decide +kernel) rfl
theorem tw1154 : Cond.instanceMethod yX6_decode ∈ tb := tc5 (i := 74) (by decide +kernel) rfl
set_option maxRecDepth 20000 in
theorem tw1155 : Cond.code yX6_decode cX6_decode 9 none ∈ tb := tc5 (i := 75) rfl rfl
theorem cuX10_203_5 : ∃ (Cn : String) (T : u_T) (N : Nat), vwCl[5]? = some (Cn, T, N) ∧ cuOK RX10 203 Cn ⟨"RasterMint$Format", "decode", "(LRasterMint$Source;LRasterMint$Raster;)V"⟩ mX6_decode 2 := ⟨RX6, TX6, 5, rfl, tw845, tw847, tw1153, tw1154, tw127, tw1155, rfl, tl4 (List.mem_of_getElem? (i := 6) (by decide +kernel)), by decide +kernel, by decide +kernel⟩
theorem tw1091 : Cond.selects RX5 ⟨"RasterMint$Format", "decode", "(LRasterMint$Source;LRasterMint$Raster;)V"⟩ yX5_decode ∈ tb := tc5 (i := 11) (by decide +kernel) rfl
theorem tw1092 : Cond.instanceMethod yX5_decode ∈ tb := tc5 (i := 12) (by decide +kernel) rfl
set_option maxRecDepth 20000 in
theorem tw1093 : Cond.code yX5_decode cX5_decode 3 none ∈ tb := tc5 (i := 13) rfl rfl
theorem cuX10_203_4 : ∃ (Cn : String) (T : u_T) (N : Nat), vwCl[4]? = some (Cn, T, N) ∧ cuOK RX10 203 Cn ⟨"RasterMint$Format", "decode", "(LRasterMint$Source;LRasterMint$Raster;)V"⟩ mX5_decode 2 := ⟨RX5, TX5, 4, rfl, tw845, tw847, tw1091, tw1092, tw128, tw1093, rfl, tl4 (List.mem_of_getElem? (i := 6) (by decide +kernel)), by decide +kernel, by decide +kernel⟩
theorem tw848 : Cond.selects RX0 ⟨"RasterMint$Format", "decode", "(LRasterMint$Source;LRasterMint$Raster;)V"⟩ yX0_decode ∈ tb := tc4 (i := 8) (by decide +kernel) rfl
theorem tw849 : Cond.instanceMethod yX0_decode ∈ tb := tc4 (i := 9) (by decide +kernel) rfl
set_option maxRecDepth 20000 in
theorem tw850 : Cond.code yX0_decode cX0_decode 5 none ∈ tb := tc4 (i := 10) rfl rfl
theorem cuX10_203_0 : ∃ (Cn : String) (T : u_T) (N : Nat), vwCl[0]? = some (Cn, T, N) ∧ cuOK RX10 203 Cn ⟨"RasterMint$Format", "decode", "(LRasterMint$Source;LRasterMint$Raster;)V"⟩ mX0_decode 2 := ⟨RX0, TX0, 12, rfl, tw845, tw847, tw848, tw849, tw129, tw850, rfl, tl4 (List.mem_of_getElem? (i := 6) (by decide +kernel)), by decide +kernel, by decide +kernel⟩
theorem tw1186 : Cond.selects RX9 ⟨"RasterMint$Format", "decode", "(LRasterMint$Source;LRasterMint$Raster;)V"⟩ yX9_decode ∈ tb := tc5 (i := 106) (by decide +kernel) rfl
theorem tw1187 : Cond.instanceMethod yX9_decode ∈ tb := tc5 (i := 107) (by decide +kernel) rfl
set_option maxRecDepth 20000 in
theorem tw1188 : Cond.code yX9_decode cX9_decode 4 none ∈ tb := tc5 (i := 108) rfl rfl
theorem cuX10_203_8 : ∃ (Cn : String) (T : u_T) (N : Nat), vwCl[8]? = some (Cn, T, N) ∧ cuOK RX10 203 Cn ⟨"RasterMint$Format", "decode", "(LRasterMint$Source;LRasterMint$Raster;)V"⟩ mX9_decode 2 := ⟨RX9, TX9, 17, rfl, tw845, tw847, tw1186, tw1187, tw130, tw1188, rfl, tl4 (List.mem_of_getElem? (i := 6) (by decide +kernel)), by decide +kernel, by decide +kernel⟩
theorem tw1041 : Cond.selects RX4 ⟨"RasterMint$Format", "decode", "(LRasterMint$Source;LRasterMint$Raster;)V"⟩ yX4_decode ∈ tb := tc4 (i := 201) (by decide +kernel) rfl
theorem tw1042 : Cond.instanceMethod yX4_decode ∈ tb := tc4 (i := 202) (by decide +kernel) rfl
set_option maxRecDepth 20000 in
theorem tw1043 : Cond.code yX4_decode cX4_decode 4 none ∈ tb := tc4 (i := 203) rfl rfl
theorem cuX10_203_3 : ∃ (Cn : String) (T : u_T) (N : Nat), vwCl[3]? = some (Cn, T, N) ∧ cuOK RX10 203 Cn ⟨"RasterMint$Format", "decode", "(LRasterMint$Source;LRasterMint$Raster;)V"⟩ mX4_decode 2 := ⟨RX4, TX4, 10, rfl, tw845, tw847, tw1041, tw1042, tw131, tw1043, rfl, tl4 (List.mem_of_getElem? (i := 6) (by decide +kernel)), by decide +kernel, by decide +kernel⟩
theorem tw1295 : Cond.methodLink RL 54 yL_read ∈ tb := tc5 (i := 215) (by decide +kernel) rfl
theorem tw120 : Cond.initialized RL ∈ tb := tc1 (i := 0) (by decide +kernel) rfl
set_option maxRecDepth 20000 in
theorem tw1297 : Cond.codeWith yL_read cL_read 5 (some .int) [(0, 10, 13, 13), (0, 10, 17, 15)] ∈ tb := tc5 (i := 217) rfl rfl
theorem tw1296 : Cond.static yL_read ∈ tb := tc5 (i := 216) (by decide +kernel) rfl
theorem cxL_54 : cxOK RL 54 mL_read 4 ∧ Cond.static mL_read.1 ∈ tb := ⟨⟨tw1295, tw120, tw1297, by decide, by decide +kernel, by decide +kernel⟩, tw1296⟩
theorem tw1336 : Cond.methodLink RL 80 yL_bytes ∈ tb := tc6 (i := 16) (by decide +kernel) rfl
set_option maxRecDepth 20000 in
theorem tw1338 : Cond.codeWith yL_bytes cL_bytes 4 (some .int) [(0, 8, 11, 15)] ∈ tb := tc6 (i := 18) rfl rfl
theorem tw1337 : Cond.static yL_bytes ∈ tb := tc6 (i := 17) (by decide +kernel) rfl
theorem cxL_80 : cxOK RL 80 mL_bytes 3 ∧ Cond.static mL_bytes.1 ∈ tb := ⟨⟨tw1336, tw120, tw1338, by decide, by decide +kernel, by decide +kernel⟩, tw1337⟩
theorem tw1344 : Cond.methodLink RL 89 yL_dot ∈ tb := tc6 (i := 24) (by decide +kernel) rfl
set_option maxRecDepth 20000 in
theorem tw1346 : Cond.codeWith yL_dot cL_dot 7 (some .int) [(0, 14, 17, 13), (0, 14, 21, 25)] ∈ tb := tc6 (i := 26) rfl rfl
theorem tw1345 : Cond.static yL_dot ∈ tb := tc6 (i := 25) (by decide +kernel) rfl
theorem cxL_89 : cxOK RL 89 mL_dot 6 ∧ Cond.static mL_dot.1 ∈ tb := ⟨⟨tw1344, tw120, tw1346, by decide, by decide +kernel, by decide +kernel⟩, tw1345⟩
theorem tw1375 : Cond.methodLink RL 93 yL_sweep ∈ tb := tc6 (i := 55) (by decide +kernel) rfl
set_option maxRecDepth 20000 in
theorem tw1377 : Cond.codeWith yL_sweep cL_sweep 9 (some .int) [(0, 18, 21, 13), (0, 18, 25, 25)] ∈ tb := tc6 (i := 57) rfl rfl
theorem tw1376 : Cond.static yL_sweep ∈ tb := tc6 (i := 56) (by decide +kernel) rfl
theorem cxL_93 : cxOK RL 93 mL_sweep 8 ∧ Cond.static mL_sweep.1 ∈ tb := ⟨⟨tw1375, tw120, tw1377, by decide, by decide +kernel, by decide +kernel⟩, tw1376⟩
theorem tw1385 : Cond.methodLink RL 97 yL_pixel ∈ tb := tc6 (i := 65) (by decide +kernel) rfl
set_option maxRecDepth 20000 in
theorem tw1387 : Cond.codeWith yL_pixel cL_pixel 6 (some .int) [(0, 12, 15, 13), (0, 12, 19, 25)] ∈ tb := tc6 (i := 67) rfl rfl
theorem tw1386 : Cond.static yL_pixel ∈ tb := tc6 (i := 66) (by decide +kernel) rfl
theorem cxL_97 : cxOK RL 97 mL_pixel 5 ∧ Cond.static mL_pixel.1 ∈ tb := ⟨⟨tw1385, tw120, tw1387, by decide, by decide +kernel, by decide +kernel⟩, tw1386⟩
def six13 : ByteArray := ⟨#[0x2a, 0x2b, 0xb7, 0x00, 0x0d, 0xb1]⟩
theorem n13_0 : decode six13 0 = .ok (.aload_n 0, 1) := by decide +kernel
theorem n13_1 : decode six13 1 = .ok (.aload_n 1, 1) := by decide +kernel
theorem n13_2 : decode six13 2 = .ok (.invokespecial 13, 3) := by decide +kernel
theorem n13_5 : decode six13 5 = .ok (.return_, 1) := by decide +kernel
def nsE : String := "java/util/NoSuchElementException"
def nsAtoms (own : String) (ic : Nat) : List Cond :=
  Bundle.throwableAtoms ++ Bundle.throwableSAtoms ++ (Bundle.passSAtoms nsE "java/lang/RuntimeException" 13 six13 ++ Bundle.chainSAtoms "java/lang/RuntimeException" ["java/lang/Exception"]) ++
  [.methodLink own ic (Bundle.initS nsE), .instantiable nsE 6, .castable nsE nsE, .selects nsE Bundle.tFill0 Bundle.tFill0, .selects nsE Bundle.tFill Bundle.tFill,
   .lays nsE Bundle.tN "cause" "Ljava/lang/Throwable;", .lays nsE Bundle.tN "stackTrace" Bundle.steD, .lays nsE Bundle.tN "suppressedExceptions" Bundle.listD, .lays nsE Bundle.tN "detailMessage" "Ljava/lang/String;",
   .isRef (.static Bundle.tN "UNASSIGNED_STACK" Bundle.steD), .isRef (.static Bundle.tN "SUPPRESSED_SENTINEL" Bundle.listD),
   .fieldLink Bundle.tN 198 Bundle.tN "backtrace" "Ljava/lang/Object;", .lays Bundle.tN Bundle.tN "backtrace" "Ljava/lang/Object;", .lays nsE Bundle.tN "backtrace" "Ljava/lang/Object;"]
set_option maxHeartbeats 1000000 in
/-- after the library's throw of an exception with a text, the first link by its own number -/
theorem ctN {p : Program} {l : Launch} {e : Env} {R : Room} {s : State} {m₀ : MethodId} {args : Array Value} {below : List Frame} {meth : Method} {c : Code} {W : State} {locs : List Loc} {cells slots : Nat}
    (X : Stand p l e R s m₀ args below meth c W locs cells slots) (hexec : p.tables.exec = Jvm.exec) (htr : e.platform.stackTraces = false) {own : String} {ic : Nat}
    (hown : s.vm.findClass own = some m₀.cls) (h : ∀ a ∈ nsAtoms own ic, a.before args s = true)
    (hlocs : ∀ x ∈ locs, ∀ cell, s.heap[x.base]? = some cell → cell.vm.isStatics = false)
    {a : Addr} {cX : ClassId} {kX : Class} (hfoundX : s.vm.findClass nsE = some cX) (hkX : s.vm.classes[cX]? = some kX) (hcell : W.heap[a]? = some (freshCell cX kX)) (hnew : s.heap.size ≤ a)
    {msg : Value} (hmsg : msg.isRef = true)
    {g : JFrame} (hg : g.method = m₀) (hsize : g.locals.size = c.maxLocals) (hlocked : g.locked = none) (hentered : g.entered = []) {rest : List Value} (hstack : g.stack = msg :: .ref a :: .ref a :: rest)
    (hd6 : decode c.code g.pc = .ok (.invokespecial ic, 3)) (hd9 : decode c.code (g.pc + 3) = .ok (.athrow, 1)) (hout : ∀ x ∈ c.exceptionTable.toList, covers x (g.pc + 3) = false)
    (hRframes : 5 < R.frames) (hRlocals : 2 * g.monitorRoom + ((Value.ref a :: rest).map fun v => v.category).sum + 81 ≤ R.locals) (hlocks : meth.locks = false) :
    ∃ U : State, Steps p.tables e below (W.setTop g) U ∧ U.status = .running ∧ Ended U below (.threw a) ∧ s.WarmedH U.vm ∧ s.sameButNew ({ U with vm := s.vm } : State) locs cells slots ∧
      ∃ ce, U.heap[a]? = some ce ∧ ce.vm = .none ∧ s.vm.findClass nsE = some ce.cls := by
  have howns : e.platform.frameOwnsMonitors = true := by rw [X.admits.platform]
  have hfin : e.platform.finalization = false := by rw [X.admits.platform]
  have hpl : e.platform.magicAccessors = ({} : Platform).magicAccessors := by rw [X.admits.platform]
  have a' : ∀ x, x ∈ nsAtoms own ic → x.holds args s none s [] = true := fun x hx => h x hx
  obtain ⟨T, Z0, L, -, Y⟩ := ThrowableC.of_atoms (args := args) howns hfin hpl (fun x hx => h x (by simp [nsAtoms, hx]))
  obtain ⟨Z, M, LZ, LM, hnZ⟩ := Init0T.ofS_atoms (args := args) hpl L Y (fun x hx => h x (by simp [nsAtoms, hx]))
  obtain ⟨P2, Ps2, hlen2, L2, hL2, hP2m, hlink2, hpass2⟩ := Bundle.chainS (args := args) hpl hnZ ["java/lang/Exception"] "java/lang/RuntimeException" (by decide +kernel) (by decide +kernel) (fun x hx => h x (by simp [nsAtoms, hx]))
  obtain ⟨P1, L1, hP1m, hs1⟩ := PassC.ofS_atoms (args := args) (s := s) hpl (X := nsE) (Y := "java/lang/RuntimeException") (by decide +kernel) (by decide) n13_0 n13_1 n13_2 n13_5 (fun x hx => h x (by simp [nsAtoms, hx]))
  have hlink1 : P1.sup = firstOf (Z.m T.toThrowableT) ((P2 :: Ps2).map (·.toPassT)) := Option.some.inj (hs1.symm.trans hP2m)
  have hfound : s.vm.findClass nsE = some P1.m.cls := findClass_of_methodNamed hP1m
  cases Option.some.inj (hfoundX.symm.trans hfound)
  obtain ⟨c1, kX', hc1, hk, hord, -, -, hn6⟩ := Cond.instantiable_spec (a' (.instantiable nsE 6) (by simp [nsAtoms]))
  cases Option.some.inj (hc1.symm.trans hfound)
  cases Option.some.inj (hkX.symm.trans hk)
  have hsel0 : selectMethod e.platform s.vm P1.m.cls T.fill0 = .method T.fill0 := by
    obtain ⟨c2, r2, m2, q1, q2, q3, q4, -⟩ := Cond.selects_spec (a' (.selects nsE Bundle.tFill0 Bundle.tFill0) (by simp [nsAtoms]))
    cases Option.some.inj (q1.symm.trans hfound)
    cases Option.some.inj (q2.symm.trans (State.methodFound?_of_named Y.fill0 (by decide)))
    cases Option.some.inj (q3.symm.trans Y.fill0)
    rw [Launch.admits_selectMethod X.admits]; exact q4
  have hselF : selectMethod e.platform s.vm P1.m.cls T.fill = .method T.fill := by
    obtain ⟨c2, r2, m2, q1, q2, q3, q4, -⟩ := Cond.selects_spec (a' (.selects nsE Bundle.tFill Bundle.tFill) (by simp [nsAtoms]))
    cases Option.some.inj (q1.symm.trans hfound)
    cases Option.some.inj (q2.symm.trans (State.methodFound?_of_named Y.fill (by decide)))
    cases Option.some.inj (q3.symm.trans Y.fill)
    rw [Launch.admits_selectMethod X.admits]; exact q4
  obtain ⟨cellS0, hcS0, hiss⟩ := Y.statics
  obtain ⟨u0, hu0⟩ := Cond.staticRefV Y.unassigned L.unassignedStatic L.statics hcS0 hiss (a' (.isRef (.static Bundle.tN "UNASSIGNED_STACK" Bundle.steD)) (by simp [nsAtoms]))
  obtain ⟨sen, hsen⟩ := Cond.staticRefV Y.sentinel L.sentinelStatic L.statics hcS0 hiss (a' (.isRef (.static Bundle.tN "SUPPRESSED_SENTINEL" Bundle.listD)) (by simp [nsAtoms]))
  obtain ⟨ci198, i198, fB, hk198, hg198, ha198, hsB, -, hnB, htB, hffB⟩ := Cond.ownField (t := .object "java/lang/Object") Y.found L.cls (by decide +kernel) (a' (.fieldLink Bundle.tN 198 Bundle.tN "backtrace" "Ljava/lang/Object;") (by simp [nsAtoms])) (a' (.lays Bundle.tN Bundle.tN "backtrace" "Ljava/lang/Object;") (by simp [nsAtoms])) e.platform hpl
  obtain ⟨cellS, hcS', heS, -, hkeep⟩ := X.same.2.2.2.2.2 T.aS cellS0 hcS0
  have hcellS : W.heap[T.aS]? = some cellS := hcS'
  have hout' : ∀ i, (⟨T.aS, i⟩ : Loc) ∉ locs := fun i hmem => by
    have := hlocs _ hmem cellS0 hcS0
    rw [hiss] at this; cases this
  have hknownS : cellS.vm ≠ .unknown := by
    rw [heS]; intro hu
    rw [show cellS0.vm = .unknown from hu] at hiss
    cases hiss
  have hneS : T.aS ≠ a := Nat.ne_of_lt (Nat.lt_of_lt_of_le (Array.getElem?_eq_some_iff.mp hcS0).1 hnew)
  obtain ⟨iM, hffM⟩ := Y.msg
  obtain ⟨tyC, dC, hdC, hdnC⟩ := Cond.laysAt hfound hk Y.cause (a' (.lays nsE Bundle.tN "cause" "Ljava/lang/Throwable;") (by simp [nsAtoms]))
  obtain ⟨tyS, dS, hdS, hdnS⟩ := Cond.laysAt hfound hk Y.stack (a' (.lays nsE Bundle.tN "stackTrace" Bundle.steD) (by simp [nsAtoms]))
  obtain ⟨tyP, dP, hdP, hdnP⟩ := Cond.laysAt hfound hk Y.supp (a' (.lays nsE Bundle.tN "suppressedExceptions" Bundle.listD) (by simp [nsAtoms]))
  obtain ⟨tyM, dM, hdM, hdnM⟩ := Cond.laysAt hfound hk hffM (a' (.lays nsE Bundle.tN "detailMessage" "Ljava/lang/String;") (by simp [nsAtoms]))
  obtain ⟨tyB, dB, hdB, hdnB⟩ := Cond.laysAt hfound hk hffB (a' (.lays nsE Bundle.tN "backtrace" "Ljava/lang/Object;") (by simp [nsAtoms]))
  have bC := Cond.laysApart hdB hdC hdnB hdnC (by rw [hnB, Y.causeName]; decide)
  have bS := Cond.laysApart hdB hdS hdnB hdnS (by rw [hnB, Y.stackName]; decide)
  have bP := Cond.laysApart hdB hdP hdnB hdnP (by rw [hnB, Y.suppName]; decide)
  have hskip : SkipFacts T e.platform s (fun u => u) u0 ((preparedCellV T.toThrowableT (freshCell P1.m.cls kX) a u0 sen).withEntry W.cur) :=
    ⟨{ ci198 := ci198, i198 := i198, fBack := fB }, ⟨hk198, hg198, ha198, hsB⟩, by
      have := fresh_default (c := P1.m.cls) tyB
      rw [htB] at this
      simpa [preparedCellV, Cell.setSlot, Cell.withEntry, Array.getElem?_setIfInBounds, bC, bS, bP, bC.symm, bS.symm, bP.symm, defaultValue] using this, fun _ _ => rfl⟩
  obtain ⟨tm, methC, cdC, kC, vm₁, hnC, -, -, -, -, -, -, -, hW₁, st1⟩ := Steps.initColdS (tb := p.tables) (e := e) (below := below) (s := s) (U := W) X.here hexec X.warmed hpl hown (t := Bundle.initS nsE) rfl rfl (by decide)
    (a' (.methodLink own ic (Bundle.initS nsE)) (by simp [nsAtoms])) (h (.instanceMethod (Bundle.initS nsE)) (by simp [nsAtoms, Bundle.passSAtoms])) (bytes := six13) (maxL := 2) (h (.code (Bundle.initS nsE) six13 2 none) (by simp [nsAtoms, Bundle.passSAtoms]))
    (f := g) hg (a := a) (msg := msg) (rest := .ref a :: rest) hstack hd6
  cases Option.some.inj (hnC.symm.trans hP1m)
  have X₁ := X.noted hW₁
  have hlen : Ps2.length = 1 := hlen2
  obtain ⟨vm₂, X₂, st2⟩ := X₁.ctorMessageOffV hexec (g := { g with stack := .ref a :: rest }) hg hsize T L Z LZ M LM (P1 :: P2 :: Ps2)
    (fun P hP => by rcases List.mem_cons.mp hP with rfl | hP; exact L1; rcases List.mem_cons.mp hP with rfl | hP; exact L2; exact hL2 P hP) ⟨hlink1, hlink2, hpass2⟩ (u0 := u0) (sen := sen) (self := a) hmsg (cell := freshCell P1.m.cls kX) (cellS := cellS)
    hcell (fun _ => by simp) (by simp) rfl rfl hsel0 hselF hcellS hneS hknownS (by rw [hkeep _ (hout' _)]; exact hu0) (by rw [hkeep _ (hout' _)]; exact hsen)
    (Takes.of_laid hk hord tyC (by rw [Y.causeType]; rfl)) (Takes.of_laid hk hord tyS (by rw [Y.stackType]; exact fits_refV_array _ u0)) (Takes.of_laid hk hord tyP (by rw [Y.suppType]; exact fits_refV_object _ sen))
    (Takes.of_laid hk hord tyM (by rw [Y.msgType]; exact fits_refV_object _ ⟨msg, hmsg⟩)) Y.objLocals hskip htr [] hd6
    (by simp only [List.length_cons, hlen]; omega) (by simp only [List.length_cons, hlen]; exact hRlocals)
  obtain ⟨hwalk, hrun, hended, hWU, hsame⟩ := X₂.athrowLeaves hexec (g := { g with stack := .ref a :: rest, pc := g.pc + 3 }) hg hlocked hentered hout (a := a) (rest := rest) rfl hd9
  have hlt : a < ((W.setVm vm₁).setVm vm₂).heap.size := (Array.getElem?_eq_some_iff.mp hcell).1
  have hU := heapAt_setCell_self (s := (W.setVm vm₁).setVm vm₂) (plainBareV T.toThrowableT (freshCell P1.m.cls kX) a u0 sen msg) hlt
  refine ⟨_, st1 _ (fun acts => ?_), hrun, hended, hWU, hsame.weaken (fun y hy hlt' => ?_) (Nat.le_refl _) (Nat.le_refl _), _, hU, rfl, hfound⟩
  · rw [doInvoke_state]
    exact st2 _ hwalk
  · rcases List.mem_append.mp hy with h1 | h1
    · exact h1
    · exfalso
      have hb : y.base = a := by
        simp only [List.mem_cons, List.not_mem_nil, or_false] at h1
        rcases h1 with rfl | rfl | rfl | rfl | rfl <;> rfl
      rw [hb] at hlt'
      exact Nat.not_lt.mpr hnew hlt'
def nsAt (own : String) (ic : Nat) : List Cond := (nsAtoms own ic).filter vx_no
section NSR
variable {p : Program} {l : Launch} {e : Env} {R : Room} {s : State} {m : MethodId} {args : Array Value} {below : List Frame} {meth : Method} {c : Code} {H : Heap} {locs : List Loc} {cells slots : Nat}
variable {free : Addr → Prop} {ls : Array Slot} {rest : List Value}
variable {Qc : Array Value → State → Outcome → State → Prop} {XC : String → State → State → Prop}
theorem vx_throwN {cc : ByteArray} {pc : Nat} (hexec : p.tables.exec = Jvm.exec) (hb : c.code = cc) (hl : l.stackTraces = false) {own text : String} {ik is ic mc ms sa : Nat} {A : Nat → Prop}
    (hown : s.vm.findClass own = some m.cls)
    (hk : (Cond.classLink own ik nsE).before args s = true) (hini : (Cond.initialized nsE).before args s = true) (hstr : vk_R own is text sa s) (hat : ∀ w ∈ nsAt own ic, w.before args s = true)
    (hgood : ∀ w ∈ Cond.classLink own ik nsE :: Cond.initialized nsE :: nsAt own ic, vx_ot w = true)
    (hU : vx_Zq Bundle.tN "UNASSIGNED_STACK" Bundle.steD A s s.heap) (hN : vx_Zq Bundle.tN "SUPPRESSED_SENTINEL" Bundle.listD A s s.heap) (hS : va_S A s.heap H locs) (hsize : ls.size = c.maxLocals)
    (d0 : decode cc pc = .ok (.new ik, 3)) (d3 : decode cc (pc + 3) = .ok (.dup, 1)) (d4 : decode cc (pc + 4) = .ok (.ldc is, 2)) (d6 : decode cc (pc + 6) = .ok (.invokespecial ic, 3)) (d9 : decode cc (pc + 9) = .ok (.athrow, 1))
    (hout : ∀ x ∈ c.exceptionTable.toList, covers x (pc + 9) = false)
    (hRframes : 5 < R.frames) (hRlocals : (rest.map fun v => v.category).sum + 82 ≤ R.locals) (hRcells : cells + 1 ≤ R.cells) (hRslots : slots + 6 ≤ R.slots) (hlocks : meth.locks = false)
    (hx : ∀ t : State, s.vm.Alike t.vm → H.size ≤ t.heap.size → (∀ q : Nat, q < H.size → t.heap[q]? = H[q]?) → XC nsE s t)
    (hf : ∀ z ∈ locs, free z.base) (hc : cells + 1 ≤ mc) (hs : slots + 6 ≤ ms) :
    W p l e R s m args below meth c H locs cells slots (vx_MQ below Qc XC args s mc ms free) (F0 m pc ls rest) := by
  intro T hT X
  have htr : e.platform.stackTraces = false := (show e.platform.stackTraces = l.stackTraces by rw [X.admits.platform]).trans hl
  have Y := vx_rebase X (R' := { frames := R.frames, locals := R.locals, cells := 1, slots := 6 }) (Nat.le_refl _) (Nat.le_refl _) hRcells hRslots
  obtain ⟨s', hA⟩ : ∃ z, z = (T.setVm s.vm).setFrames (.invoking m args :: below) := ⟨_, rfl⟩
  rw [← hA] at Y
  have hvm : s'.vm = s.vm := by rw [hA]; rfl
  have hhp : s'.heap = H := by rw [hA]; exact hT
  have hW0 : s.WarmedH s'.vm := by rw [hvm]; exact State.WarmedH.refl s
  have hat' : ∀ w ∈ nsAt own ic, w.before args s' = true := fun w hw => vx_ot_at hW0 hvm.symm (hgood w (List.mem_cons_of_mem _ (List.mem_cons_of_mem _ hw))) (hat w hw)
  have hk' : (Cond.classLink own ik nsE).before args s' = true := vx_ot_at hW0 hvm.symm (hgood _ List.mem_cons_self) hk
  have hini' : (Cond.initialized nsE).before args s' = true := vx_ot_at hW0 hvm.symm (hgood _ (List.mem_cons_of_mem _ List.mem_cons_self)) hini
  have hU' : vx_Zq Bundle.tN "UNASSIGNED_STACK" Bundle.steD A s' s'.heap := by rw [hhp]; exact vx_Zq.moved hW0.alike (hU.kept hS.2.1)
  have hN' : vx_Zq Bundle.tN "SUPPRESSED_SENTINEL" Bundle.listD A s' s'.heap := by rw [hhp]; exact vx_Zq.moved hW0.alike (hN.kept hS.2.1)
  have h : ∀ w ∈ nsAtoms own ic, w.before args s' = true := vx_own hat' (vx_isRefq hU'.1) (vx_isRefq hN'.1) hU'.2.word hN'.2.word
  have hown' : s'.vm.findClass own = some m.cls := by rw [hvm]; exact hown
  have hins : (Cond.instantiable nsE 6).before args s' = true := h _ (by simp [nsAtoms])
  obtain ⟨vm₁, cX, kX, hfX, hkX, -, -, X₁, st1⟩ := Y.newCold hexec (own := own) (C := nsE) (index := ik) (n := 6) hown' hk' hins hini'
    (g := F0 m pc ls rest) rfl (by rw [hb]; exact d0) (Nat.le_refl _) (Nat.le_refl _)
  generalize hT1 : (T.setVm vm₁).pushCell { cls := cX, slots := kX.instanceTypes.map defaultValue, vm := .none } = T1 at X₁ st1
  have hcat : (Value.ref T.heap.size).category = 1 := rfl
  have hcellA : T1.heap[T.heap.size]? = some (freshCell cX kX) := by rw [← hT1]; exact State.heap_pushCell_size _ _
  have d3' : decode c.code (pc + 3) = .ok (.dup, 1) := by rw [hb]; exact d3
  have d4' : decode c.code (pc + 4) = .ok (.ldc is, 2) := by rw [hb]; exact d4
  have hstr' : vk_R own is text sa s' := vk_R.warm hW0 hstr
  obtain ⟨U, hsteps, hrun, hend, hW, hsame, ce, hce, hv, hcl0⟩ := ctN X₁ hexec htr (own := own) (ic := ic) hown' h (fun x hx => nomatch hx) hfX hkX hcellA (by rw [hhp, hT]; exact Nat.le_refl _) (msg := .ref sa) rfl
    (g := { method := m, pc := pc + 6, locals := ls, stack := .ref sa :: .ref T.heap.size :: .ref T.heap.size :: rest, locked := none }) rfl hsize rfl rfl (rest := rest) rfl
    (by rw [hb]; exact d6) (by rw [hb]; exact d9) hout hRframes (by simp only [List.map_cons, List.sum_cons, hcat]; omega) hlocks
  obtain ⟨f1, f2⟩ := vx_frame hsame
  rw [hhp] at f1 f2
  have hWs : s.WarmedH U.vm := State.WarmedH.trans hW0 hW
  have hcl : s.vm.findClass nsE = some ce.cls := by
    rw [hvm] at hcl0
    exact hcl0
  have hall : s.sameButNew ({ U with vm := s.vm } : State) locs mc ms := by
    subst hA
    obtain ⟨e1, e2⟩ := hsame
    rw [State.setFrames_setFrames] at e1
    have h2 : (T.setVm s.vm).sameButNew ({ U with vm := s.vm } : State) [] (0 + 1) (0 + 6) := ⟨e1, e2⟩
    have h3 := X.same.trans h2
    rw [List.append_nil] at h3
    exact h3.mono hc hs
  refine ⟨U, ?_, .threw T.heap.size, hrun, hend, Or.inr ⟨T.heap.size, rfl, nsE, ce, locs, hx U hWs.alike f1 (fun q hq => f2 q hq (fun z hz => nomatch hz)), hce, hv, hcl, hWs, hall, hf⟩⟩
  refine st1 _ ?_
  show Steps p.tables e below (T1.setTop { method := m, pc := pc + 3, locals := ls, stack := .ref T.heap.size :: rest, locked := none }) _
  jvm_step X₁.here [X₁.here.top, hexec, d3', Value.category]
  exact X₁.ldcString hexec (own := own) (text := text) (index := is) (a := sa) hown' hstr'.1 hstr'.2
    (g := { method := m, pc := pc + 4, locals := ls, stack := .ref T.heap.size :: .ref T.heap.size :: rest, locked := none }) rfl d4' _ hsteps
end NSR
/-- what 'throw new NoSuchElementException("text")' asks of the tables -/
def tnOK (own : String) (ik is ic : Nat) : Prop := Cond.classLink own ik nsE ∈ tb ∧ Cond.initialized nsE ∈ tb ∧ (∃ text, Cond.stringRef own is text ∈ lw_tbl) ∧ (∀ w ∈ (nsAt own ic).filter goodWord, w ∈ tb) ∧ (∀ w ∈ (nsAt own ic).filter (fun w => !goodWord w), w ∈ exB nsE) ∧ (∀ w ∈ exB nsE, w ∈ lw_tbl) ∧ (∀ w ∈ Cond.classLink own ik nsE :: Cond.initialized nsE :: nsAt own ic, vx_ot w = true)
section AWR
variable {X : State → (Nat → Prop) → Prop} {M : aM} {R : Room} {gc gs k j pc n : Nat} {Po : Option Value → aH → Nat → Prop} {PX : String → aH → Nat → Prop} {lv : List (Nat × Value)} {st : List Value} {h : aH} {idx : Nat}
theorem aw_throwN {ik is ic : Nat} (d0 : decode M.2.1 pc = .ok (.new ik, 3)) (d3 : decode M.2.1 (pc + 3) = .ok (.dup, 1)) (d4 : decode M.2.1 (pc + 4) = .ok (.ldc is, 2)) (d6 : decode M.2.1 (pc + 6) = .ok (.invokespecial ic, 3)) (d9 : decode M.2.1 (pc + 9) = .ok (.athrow, 1)) (hw : tnOK M.1.cls ik is ic) (ht : M.2.2.2.2 = []) (hfr : 5 < R.frames) (hlo : (st.map Value.category).sum + 82 ≤ R.locals) (hk : k + 1 ≤ R.cells) (hj : j + 6 ≤ R.slots) (hp : PX nsE h n) : AW X M R gc gs Po PX k j pc lv st h n := by
  intro p l e s m args below meth c A D ws0 C hX H locs ws tys ls lv' st' hK hP hD hS hR hn he hl hls hst
  obtain ⟨v2, v3, ⟨text, v4⟩, v5, v6, v7, v8⟩ := hw
  obtain ⟨c1, c2, c3, c4, c5, c6, c7, c8, c9, c10, c11, c12⟩ := C
  obtain ⟨x1, x2, x3, x4, x5, x6, x7, x9, x10⟩ := c12
  obtain ⟨sa, x8⟩ := x5 _ _ _ v4
  refine vx_throwN (text := text) (sa := sa) c1 c2 c11 c4 (c5 _ v2) (c5 _ v3) x8 (vx_hat (fun w hw => c5 _ (v5 w hw)) v6 (vx_c (x4 _ _ (v7 _ (List.mem_of_getElem? (i := 0) rfl))).use (vx_c (va_Nw.use rfl (x2 _ (v7 _ (List.mem_of_getElem? (i := 1) rfl)))) (vx_c (va_Nw.use rfl (x2 _ (v7 _ (List.mem_of_getElem? (i := 2) rfl)))) (vx_c (va_Nw.use rfl (x2 _ (v7 _ (List.mem_of_getElem? (i := 3) rfl)))) vx_n))))) v8 x6 x7 hS (hls.1.trans c3.symm) d0 d3 d4 d6 d9 (fun x hx => by rw [c9, ht] at hx; cases hx) hfr ?_ hk hj c6 (fun t hal hsz hsame => ⟨⟨h, ws, tys, by rw [hn]; exact hp, he, hR, hP.kept (fun i q hi => hsame q.1 (hP i q hi).lt), va_K.moved hal hK, hD⟩, Nat.le_trans hS.1 hsz, fun q h1 h2 => by rw [hsame q (Nat.lt_of_lt_of_le h1 hS.1)]; exact hS.2.1 q h1 h2⟩) hS.2.2 hk hj
  show (st'.map fun v => v.category).sum + 82 ≤ _
  rw [show (st'.map fun v => v.category) = st'.map Value.category from rfl, hst.cat]
  exact hlo
end AWR
set_option maxRecDepth 20000 in
theorem tng : ∀ w ∈ (nsAt RX10 109).filter goodWord, w ∈ lw_tbl := by decide +kernel
theorem tnb : ∀ w ∈ exB nsE, w ∈ lw_tbl := by decide +kernel
theorem tnn : ∀ w ∈ (nsAt RX10 109).filter (fun w => !goodWord w), w ∈ exB nsE := by decide +kernel
theorem tn107 : tnOK RX10 105 107 109 := ⟨tc6 (i := 0) (by decide +kernel) rfl, tc1 (i := 19) (by decide +kernel) rfl, ⟨"no such family", tl6 (List.mem_of_getElem? (i := 9) (by decide +kernel))⟩, fun w hw => List.mem_filter.mpr ⟨tng w hw, (List.mem_filter.mp hw).2⟩, tnn, tnb, by decide +kernel⟩
theorem tn129 : tnOK RX10 105 129 109 := ⟨tc6 (i := 0) (by decide +kernel) rfl, tc1 (i := 19) (by decide +kernel) rfl, ⟨"no such byte", tl6 (List.mem_of_getElem? (i := 23) (by decide +kernel))⟩, fun w hw => List.mem_filter.mpr ⟨tng w hw, (List.mem_filter.mp hw).2⟩, tnn, tnb, by decide +kernel⟩
