/-- a method: its name, bytes, how many locals, what it returns, its table -/
abbrev aM : Type := MethodName × ByteArray × Nat × Option FieldType × List (Nat × Nat × Nat × Nat)
def aw_ca (E T : String) (s : State) : Prop := ∃ c t : ClassId, s.vm.findClass E = some c ∧ s.vm.findClass T = some t ∧ s.vm.assignable c t = true
theorem aw_ca.moved {C T : String} {u U : State} (hvm : u.vm.Alike U.vm) (h : aw_ca C T u) : aw_ca C T U := by
  obtain ⟨c, t, h1, h2, h3⟩ := h
  exact ⟨c, t, by rw [hvm.findClass]; exact h1, by rw [hvm.findClass]; exact h2, by rw [hvm.assignable]; exact h3⟩
/-- exceptions that a row of another class doesn't take -/
def ncs : List (String × String) := [("java/util/NoSuchElementException", "java/lang/IllegalArgumentException"), ("java/lang/IndexOutOfBoundsException", "java/lang/IllegalArgumentException")]
def footText : String := "TRUEVISION-XFILE."
def footByt : List Int32 := [84, 82, 85, 69, 86, 73, 83, 73, 79, 78, 45, 88, 70, 73, 76, 69, 46]
/-- the one text whose signs are asked: its object, its bytes -/
def aw_str (A : Nat → Prop) (s : State) (H : Heap) : Prop := va_Z "java/lang/String" "COMPACT_STRINGS" "Z" (.int 1) A s H ∧ vx_Zq "jdk/internal/util/Preconditions" "SIOOBE_FORMATTER" "Ljava/util/function/BiFunction;" A s H ∧ ∃ adK adV : Nat → Nat, vk_S 1 [17] [footByt] adK adV A s H ∧ vk_R "RasterMint$Tga" 162 footText (adK 0) s ∧ vk_R "RasterMintModel" 218 footText (adK 0) s
theorem aw_str.moved {A B : Nat → Prop} {s U : State} {H H1 : Heap} (h : aw_str A s H) (hW : s.WarmedH U.vm) (hq : ∀ a : Nat, a < H.size → ¬ A a → H1[a]? = H[a]?) (hB : ∀ q, B q → A q) : aw_str B U H1 := by
  obtain ⟨h1, h0, adK, adV, h2, h3, h4⟩ := h
  exact ⟨(va_Z.moved hW.alike (h1.kept hq)).narrow hB, (vx_Zq.moved hW.alike (h0.kept hq)).narrow hB, adK, adV, (vk_S.moved hW.alike (h2.kept hq)).narrow hB, vk_R.warm hW h3, vk_R.warm hW h4⟩
/-- what holds at every call, beside the good words: private links, abstract methods, arrays of objects, casts, texts, the statics of Throwable -/
def aw_cx (A : Nat → Prop) (s : State) (H : Heap) : Prop :=
  (∀ a i x h, Cond.methodLinkNest a i x h ∈ lw_tbl → va_Nw (.methodLinkNest a i x h) s) ∧ (∀ x, Cond.declares x ∈ lw_tbl → va_Nw (.declares x) s) ∧
  (∀ C, Cond.arrayOver (.object C) ∈ lw_tbl → va_AO C s) ∧ (∀ a b, Cond.castable a b ∈ lw_tbl → aw_ca a b s) ∧ (∀ a k t, Cond.stringRef a k t ∈ lw_tbl → ∃ q, vk_R a k t q s) ∧
  vx_Zq Bundle.tN "UNASSIGNED_STACK" Bundle.steD A s H ∧ vx_Zq Bundle.tN "SUPPRESSED_SENTINEL" Bundle.listD A s H ∧ (∀ a b, (a, b) ∈ ncs → va_Nc a b s) ∧ aw_str A s H
/-- seen from a callee, or behind it -/
theorem aw_cx.moved {A B : Nat → Prop} {s U : State} {H H1 : Heap} (h : aw_cx A s H) (hW : s.WarmedH U.vm) (hq : ∀ a : Nat, a < H.size → ¬ A a → H1[a]? = H[a]?) (hB : ∀ q, B q → A q) : aw_cx B U H1 :=
  ⟨fun a i x y hm => va_Nw.warmM hW (h.1 a i x y hm), fun x hm => va_Nw.warmD hW (h.2.1 x hm), fun C hm => va_AO.moved hW.alike (h.2.2.1 C hm), fun a b hm => aw_ca.moved hW.alike (h.2.2.2.1 a b hm),
   fun a k t hm => by obtain ⟨q, hq⟩ := h.2.2.2.2.1 a k t hm; exact ⟨q, vk_R.warm hW hq⟩,
   (vx_Zq.moved hW.alike (h.2.2.2.2.2.1.kept hq)).narrow hB, (vx_Zq.moved hW.alike (h.2.2.2.2.2.2.1.kept hq)).narrow hB, fun a b hm => va_Nc.moved hW.alike (h.2.2.2.2.2.2.2.1 a b hm), h.2.2.2.2.2.2.2.2.moved hW hq hB⟩
def aw_C (p : Program) (l : Launch) (s : State) (m : MethodId) (args : Array Value) (meth : Method) (c : Code) (M : aM) (A : Nat → Prop) : Prop :=
  p.tables.exec = Jvm.exec ∧ c.code = M.2.1 ∧ c.maxLocals = M.2.2.1 ∧ s.vm.findClass M.1.cls = some m.cls ∧ (∀ w ∈ tb, w.before args s = true) ∧ meth.locks = false ∧ meth.sig.returnType = M.2.2.2.1 ∧ meth.name = M.1.name ∧
  c.exceptionTable.toList = tableOf M.2.2.2.2 ∧ (∀ q, s.heap.size ≤ q → A q) ∧ l.stackTraces = false ∧ aw_cx A s s.heap
def rmD (d mc ms : Nat) : Room := { frames := 2 * d, cells := mc, slots := ms, locals := 60 * d }
def rop (ws : va_W) : Option Value → Option Value → Prop
  | none, r => r = none
  | some v, r => ∃ v', r = some v' ∧ rv ws v v'
/-- the heap has grown by rc cells of rs slots at most, and no old cell's size has changed -/
def gro (H0 H : Heap) (rc rs : Nat) : Prop := H.size ≤ H0.size + rc ∧ (∀ (a : Nat) (c : Cell), H0[a]? = some c → ∃ c', H[a]? = some c' ∧ c'.slots.size = c.slots.size) ∧ ((H.toList.drop H0.size).map (fun c => c.slots.size)).sum ≤ rs
def aw_Qc (D : va_G) (A : Nat → Prop) (ws0 : va_W) (gc gs : Nat) (Po : Option Value → aH → Nat → Prop) : Array Value → State → Outcome → State → Prop := fun _ st oc t =>
  gro st.heap t.heap gc gs ∧ (∃ (r r' : Option Value) (h : aH) (ws : va_W) (tys : aT), oc = .returned r' ∧ Po r h ws.length ∧ rop ws r r' ∧ ex ws0 ws ∧ rel h ws tys ∧ va_P D vwCl ws t.heap ∧ va_K D vwCl tys t ∧ va_D A ws) ∧ va_F A st t
def aw_XC (D : va_G) (A : Nat → Prop) (ws0 : va_W) (PX : String → aH → Nat → Prop) : String → State → State → Prop := fun E st t =>
  (∃ (h : aH) (ws : va_W) (tys : aT), PX E h ws.length ∧ ex ws0 ws ∧ rel h ws tys ∧ va_P D vwCl ws t.heap ∧ va_K D vwCl tys t ∧ va_D A ws) ∧ va_F A st t
/-- the frame of method M at pc, over the abstract heap h of n objects: the method comes to its end, by Po if it returns, by PX if it throws -/
def AW (X : State → (Nat → Prop) → Prop) (M : aM) (R : Room) (gc gs : Nat) (Po : Option Value → aH → Nat → Prop) (PX : String → aH → Nat → Prop) (k j pc : Nat) (lv : List (Nat × Value)) (st : List Value) (h : aH) (n : Nat) : Prop :=
  ∀ (p : Program) (l : Launch) (e : Env) (s : State) (m : MethodId) (args : Array Value) (below : List Frame) (meth : Method) (c : Code) (A : Nat → Prop) (D : va_G) (ws0 : va_W), aw_C p l s m args meth c M A → X s A →
  ∀ (H : Heap) (locs : List Loc) (ws : va_W) (tys : aT) (ls : Array Slot) (lv' : List (Nat × Value)) (st' : List Value), va_K D vwCl tys s → va_P D vwCl ws H → va_D A ws → va_S A s.heap H locs → rel h ws tys → ws.length = n → ex ws0 ws → rl ws lv lv' → lv_has ls M.2.2.1 lv' → rs ws st st' →
  W p l e R s m args below meth c H locs k j (vx_MQ below (aw_Qc D A ws0 gc gs Po) (aw_XC D A ws0 PX) args s R.cells R.slots A) (F0 m pc ls st')
def wsM (M : aM) : List Cond := (if M.2.2.2.2 = [] then Cond.code M.1 M.2.1 M.2.2.1 M.2.2.2.1 else Cond.codeWith M.1 M.2.1 M.2.2.1 M.2.2.2.1 M.2.2.2.2) :: tb
/-- a method's contract: at depth d, called with as over the abstract heap h of n objects -/
def AM (M : aM) (d : Nat) (av : List Value) (h : aH) (n mc ms gc gs : Nat) (Po : Option Value → aH → Nat → Prop) (PX : String → aH → Nat → Prop) : Prop :=
  ∀ (l : Launch) (D : va_G) (ws : va_W) (tys : aT) (av' : List Value) (sz : Nat), l.stackTraces = false → rel h ws tys → ws.length = n → rs ws av av' →
    vx_Met l M.1 (wsM M) (rmD d mc ms) (va_Pc av' (fun U => U.heap.size = sz ∧ va_P D vwCl ws U.heap ∧ va_K D vwCl tys U ∧ va_D (fun _ => True) ws ∧ aw_cx (va_A ws sz) U U.heap)) (aw_Qc D (va_A ws sz) ws gc gs Po) (aw_XC D (va_A ws sz) ws PX) mc ms (va_A ws sz)
section AWR
variable {X : State → (Nat → Prop) → Prop} {M : aM} {R : Room} {gc gs k j pc n : Nat} {Po : Option Value → aH → Nat → Prop} {PX : String → aH → Nat → Prop} {lv : List (Nat × Value)} {st : List Value} {h : aH}
theorem aw_iconst {z : Int} {v : Int32} (hd : decode M.2.1 pc = .ok (.iconst z, 1)) (hv : Int32.ofInt z = v) (kk : AW X M R gc gs Po PX k j (pc + 1) lv (.int v :: st) h n) : AW X M R gc gs Po PX k j pc lv st h n := by
  intro p l e s m args below meth c A D ws0 C hX H locs ws tys ls lv' st' hK hP hD hS hR hn he hl hls hst
  exact lv_iconst C.1 C.2.1 hd hv (kk p l e s m args below meth c A D ws0 C hX H locs ws tys ls lv' _ hK hP hD hS hR hn he hl hls ⟨_, _, rfl, rfl, hst⟩)
theorem aw_bipush {z : Int} {v : Int32} (hd : decode M.2.1 pc = .ok (.bipush z, 2)) (hv : (Int8.ofInt z).toInt32 = v) (kk : AW X M R gc gs Po PX k j (pc + 2) lv (.int v :: st) h n) : AW X M R gc gs Po PX k j pc lv st h n := by
  intro p l e s m args below meth c A D ws0 C hX H locs ws tys ls lv' st' hK hP hD hS hR hn he hl hls hst
  exact lv_bipush C.1 C.2.1 hd hv (kk p l e s m args below meth c A D ws0 C hX H locs ws tys ls lv' _ hK hP hD hS hR hn he hl hls ⟨_, _, rfl, rfl, hst⟩)
theorem aw_sipush {z : Int} {v : Int32} (hd : decode M.2.1 pc = .ok (.sipush z, 3)) (hv : (Int16.ofInt z).toInt32 = v) (kk : AW X M R gc gs Po PX k j (pc + 3) lv (.int v :: st) h n) : AW X M R gc gs Po PX k j pc lv st h n := by
  intro p l e s m args below meth c A D ws0 C hX H locs ws tys ls lv' st' hK hP hD hS hR hn he hl hls hst
  exact lv_sipush C.1 C.2.1 hd hv (kk p l e s m args below meth c A D ws0 C hX H locs ws tys ls lv' _ hK hP hD hS hR hn he hl hls ⟨_, _, rfl, rfl, hst⟩)
theorem aw_lconst {z : Fin 2} {v : Int64} (hd : decode M.2.1 pc = .ok (.lconst z, 1)) (hv : Int64.ofNat (z : Nat) = v) (kk : AW X M R gc gs Po PX k j (pc + 1) lv (.long v :: st) h n) : AW X M R gc gs Po PX k j pc lv st h n := by
  intro p l e s m args below meth c A D ws0 C hX H locs ws tys ls lv' st' hK hP hD hS hR hn he hl hls hst
  exact lv_lconst C.1 C.2.1 hd hv (kk p l e s m args below meth c A D ws0 C hX H locs ws tys ls lv' _ hK hP hD hS hR hn he hl hls ⟨_, _, rfl, rfl, hst⟩)
theorem aw_ldc {idx : Nat} {v : Int32} (hd : decode M.2.1 pc = .ok (.ldc idx, 2)) (hc : Cond.constant M.1.cls idx v ∈ tb) (kk : AW X M R gc gs Po PX k j (pc + 2) lv (.int v :: st) h n) : AW X M R gc gs Po PX k j pc lv st h n := by
  intro p l e s m args below meth c A D ws0 C hX H locs ws tys ls lv' st' hK hP hD hS hR hn he hl hls hst
  exact lv_ldc C.1 C.2.1 C.2.2.2.1 (C.2.2.2.2.1 _ hc) hd (kk p l e s m args below meth c A D ws0 C hX H locs ws tys ls lv' _ hK hP hD hS hR hn he hl hls ⟨_, _, rfl, rfl, hst⟩)
theorem aw_ldc2 {idx : Nat} {v : Int64} (hd : decode M.2.1 pc = .ok (.ldc2_w idx, 3)) (hc : Cond.constantLong M.1.cls idx v ∈ tb) (kk : AW X M R gc gs Po PX k j (pc + 3) lv (.long v :: st) h n) : AW X M R gc gs Po PX k j pc lv st h n := by
  intro p l e s m args below meth c A D ws0 C hX H locs ws tys ls lv' st' hK hP hD hS hR hn he hl hls hst
  exact lv_ldc2 C.1 C.2.1 C.2.2.2.1 (C.2.2.2.2.1 _ hc) hd (kk p l e s m args below meth c A D ws0 C hX H locs ws tys ls lv' _ hK hP hD hS hR hn he hl hls ⟨_, _, rfl, rfl, hst⟩)
theorem aw_iload_n {i : Fin 4} {x : Int32} (hd : decode M.2.1 pc = .ok (.iload_n i, 1)) (hg : lget lv (i : Nat) = some (.int x)) (kk : AW X M R gc gs Po PX k j (pc + 1) lv (.int x :: st) h n) : AW X M R gc gs Po PX k j pc lv st h n := by
  intro p l e s m args below meth c A D ws0 C hX H locs ws tys ls lv' st' hK hP hD hS hR hn he hl hls hst
  obtain ⟨v', h1, rfl⟩ := rl.get hls.2.2 hl hg
  exact lv_iload_n C.1 C.2.1 hd rfl h1 (kk p l e s m args below meth c A D ws0 C hX H locs ws tys ls lv' _ hK hP hD hS hR hn he hl hls ⟨_, _, rfl, rfl, hst⟩)
theorem aw_iload {i : Nat} {x : Int32} (hd : decode M.2.1 pc = .ok (.iload i, 2)) (hg : lget lv i = some (.int x)) (kk : AW X M R gc gs Po PX k j (pc + 2) lv (.int x :: st) h n) : AW X M R gc gs Po PX k j pc lv st h n := by
  intro p l e s m args below meth c A D ws0 C hX H locs ws tys ls lv' st' hK hP hD hS hR hn he hl hls hst
  obtain ⟨v', h1, rfl⟩ := rl.get hls.2.2 hl hg
  exact lv_iload C.1 C.2.1 hd h1 (kk p l e s m args below meth c A D ws0 C hX H locs ws tys ls lv' _ hK hP hD hS hR hn he hl hls ⟨_, _, rfl, rfl, hst⟩)
theorem aw_lload_n {i : Fin 4} {x : Int64} (hd : decode M.2.1 pc = .ok (.lload_n i, 1)) (hg : lget lv (i : Nat) = some (.long x)) (kk : AW X M R gc gs Po PX k j (pc + 1) lv (.long x :: st) h n) : AW X M R gc gs Po PX k j pc lv st h n := by
  intro p l e s m args below meth c A D ws0 C hX H locs ws tys ls lv' st' hK hP hD hS hR hn he hl hls hst
  obtain ⟨v', h1, rfl⟩ := rl.get hls.2.2 hl hg
  exact lv_lload_n C.1 C.2.1 hd rfl h1 (kk p l e s m args below meth c A D ws0 C hX H locs ws tys ls lv' _ hK hP hD hS hR hn he hl hls ⟨_, _, rfl, rfl, hst⟩)
theorem aw_lload {i : Nat} {x : Int64} (hd : decode M.2.1 pc = .ok (.lload i, 2)) (hg : lget lv i = some (.long x)) (kk : AW X M R gc gs Po PX k j (pc + 2) lv (.long x :: st) h n) : AW X M R gc gs Po PX k j pc lv st h n := by
  intro p l e s m args below meth c A D ws0 C hX H locs ws tys ls lv' st' hK hP hD hS hR hn he hl hls hst
  obtain ⟨v', h1, rfl⟩ := rl.get hls.2.2 hl hg
  exact lv_lload C.1 C.2.1 hd h1 (kk p l e s m args below meth c A D ws0 C hX H locs ws tys ls lv' _ hK hP hD hS hR hn he hl hls ⟨_, _, rfl, rfl, hst⟩)
theorem aw_aload_n {i : Fin 4} {x : Nat} (hd : decode M.2.1 pc = .ok (.aload_n i, 1)) (hg : lget lv (i : Nat) = some (.ref x)) (kk : AW X M R gc gs Po PX k j (pc + 1) lv (.ref x :: st) h n) : AW X M R gc gs Po PX k j pc lv st h n := by
  intro p l e s m args below meth c A D ws0 C hX H locs ws tys ls lv' st' hK hP hD hS hR hn he hl hls hst
  obtain ⟨v', h1, a, e1, h2, rfl⟩ := rl.get hls.2.2 hl hg
  exact lv_aload_n C.1 C.2.1 hd rfl h1 (kk p l e s m args below meth c A D ws0 C hX H locs ws tys ls lv' _ hK hP hD hS hR hn he hl hls ⟨_, _, rfl, ⟨a, e1, h2, rfl⟩, hst⟩)
theorem aw_aload {i : Nat} {x : Nat} (hd : decode M.2.1 pc = .ok (.aload i, 2)) (hg : lget lv i = some (.ref x)) (kk : AW X M R gc gs Po PX k j (pc + 2) lv (.ref x :: st) h n) : AW X M R gc gs Po PX k j pc lv st h n := by
  intro p l e s m args below meth c A D ws0 C hX H locs ws tys ls lv' st' hK hP hD hS hR hn he hl hls hst
  obtain ⟨v', h1, a, e1, h2, rfl⟩ := rl.get hls.2.2 hl hg
  exact lv_aload C.1 C.2.1 hd h1 (kk p l e s m args below meth c A D ws0 C hX H locs ws tys ls lv' _ hK hP hD hS hR hn he hl hls ⟨_, _, rfl, ⟨a, e1, h2, rfl⟩, hst⟩)
theorem aw_aload_nA {i : Fin 4} {x : Nat} (hd : decode M.2.1 pc = .ok (.aload_n i, 1)) (hg : lget lv (i : Nat) = some (.retAddr x)) (kk : AW X M R gc gs Po PX k j (pc + 1) lv (.retAddr x :: st) h n) : AW X M R gc gs Po PX k j pc lv st h n := by
  intro p l e s m args below meth c A D ws0 C hX H locs ws tys ls lv' st' hK hP hD hS hR hn he hl hls hst
  obtain ⟨v', h1, rfl⟩ := rl.get hls.2.2 hl hg
  exact lv_aload_n C.1 C.2.1 hd rfl h1 (kk p l e s m args below meth c A D ws0 C hX H locs ws tys ls lv' _ hK hP hD hS hR hn he hl hls ⟨_, _, rfl, rfl, hst⟩)
theorem aw_istore_n {i : Fin 4} {x : Int32} {lv2 : List (Nat × Value)} (hd : decode M.2.1 pc = .ok (.istore_n i, 1)) (hi : (i : Nat) < M.2.2.1) (hf : ((i : Nat), Value.int x) :: lv.filter (fun q => !(q.1 == (i : Nat)) && !(q.1 + 1 == (i : Nat) && q.2.category == 2)) = lv2) (kk : AW X M R gc gs Po PX k j (pc + 1) lv2 st h n) : AW X M R gc gs Po PX k j pc lv (.int x :: st) h n := by
  intro p l e s m args below meth c A D ws0 C hX H locs ws tys ls lv' st' hK hP hD hS hR hn he hl hls hst
  obtain ⟨_, st1, rfl, rfl, hst⟩ := hst
  refine lv_istore_n C.1 C.2.1 hd rfl hls hi rfl (fun ls1 h1 => ?_)
  subst hf
  exact kk p l e s m args below meth c A D ws0 C hX H locs ws tys ls1 _ _ hK hP hD hS hR hn he ⟨_, _, rfl, rfl, rl.filter1 _ hl⟩ h1 hst
theorem aw_istore {i : Nat} {x : Int32} {lv2 : List (Nat × Value)} (hd : decode M.2.1 pc = .ok (.istore i, 2)) (hi : i < M.2.2.1) (hf : (i, Value.int x) :: lv.filter (fun q => !(q.1 == i) && !(q.1 + 1 == i && q.2.category == 2)) = lv2) (kk : AW X M R gc gs Po PX k j (pc + 2) lv2 st h n) : AW X M R gc gs Po PX k j pc lv (.int x :: st) h n := by
  intro p l e s m args below meth c A D ws0 C hX H locs ws tys ls lv' st' hK hP hD hS hR hn he hl hls hst
  obtain ⟨_, st1, rfl, rfl, hst⟩ := hst
  refine lv_istore C.1 C.2.1 hd hls hi rfl (fun ls1 h1 => ?_)
  subst hf
  exact kk p l e s m args below meth c A D ws0 C hX H locs ws tys ls1 _ _ hK hP hD hS hR hn he ⟨_, _, rfl, rfl, rl.filter1 _ hl⟩ h1 hst
theorem aw_lstore_n {i : Fin 4} {x : Int64} {lv2 : List (Nat × Value)} (hd : decode M.2.1 pc = .ok (.lstore_n i, 1)) (hi : (i : Nat) + 1 < M.2.2.1) (hf : ((i : Nat), Value.long x) :: lv.filter (fun q => !(q.1 == (i : Nat)) && (!(q.1 == (i : Nat) + 1) && !(q.1 + 1 == (i : Nat) && q.2.category == 2))) = lv2) (kk : AW X M R gc gs Po PX k j (pc + 1) lv2 st h n) : AW X M R gc gs Po PX k j pc lv (.long x :: st) h n := by
  intro p l e s m args below meth c A D ws0 C hX H locs ws tys ls lv' st' hK hP hD hS hR hn he hl hls hst
  obtain ⟨_, st1, rfl, rfl, hst⟩ := hst
  refine lv_lstore_n C.1 C.2.1 hd rfl hls hi rfl (fun ls1 h1 => ?_)
  subst hf
  exact kk p l e s m args below meth c A D ws0 C hX H locs ws tys ls1 _ _ hK hP hD hS hR hn he ⟨_, _, rfl, rfl, rl.filter2 _ hl⟩ h1 hst
theorem aw_lstore {i : Nat} {x : Int64} {lv2 : List (Nat × Value)} (hd : decode M.2.1 pc = .ok (.lstore i, 2)) (hi : i + 1 < M.2.2.1) (hf : (i, Value.long x) :: lv.filter (fun q => !(q.1 == i) && (!(q.1 == i + 1) && !(q.1 + 1 == i && q.2.category == 2))) = lv2) (kk : AW X M R gc gs Po PX k j (pc + 2) lv2 st h n) : AW X M R gc gs Po PX k j pc lv (.long x :: st) h n := by
  intro p l e s m args below meth c A D ws0 C hX H locs ws tys ls lv' st' hK hP hD hS hR hn he hl hls hst
  obtain ⟨_, st1, rfl, rfl, hst⟩ := hst
  refine lv_lstore C.1 C.2.1 hd hls hi rfl (fun ls1 h1 => ?_)
  subst hf
  exact kk p l e s m args below meth c A D ws0 C hX H locs ws tys ls1 _ _ hK hP hD hS hR hn he ⟨_, _, rfl, rfl, rl.filter2 _ hl⟩ h1 hst
theorem aw_astore_n {i : Fin 4} {x : Nat} {lv2 : List (Nat × Value)} (hd : decode M.2.1 pc = .ok (.astore_n i, 1)) (hi : (i : Nat) < M.2.2.1) (hf : ((i : Nat), Value.ref x) :: lv.filter (fun q => !(q.1 == (i : Nat)) && !(q.1 + 1 == (i : Nat) && q.2.category == 2)) = lv2) (kk : AW X M R gc gs Po PX k j (pc + 1) lv2 st h n) : AW X M R gc gs Po PX k j pc lv (.ref x :: st) h n := by
  intro p l e s m args below meth c A D ws0 C hX H locs ws tys ls lv' st' hK hP hD hS hR hn he hl hls hst
  obtain ⟨_, st1, rfl, ⟨a, e1, h2, rfl⟩, hst⟩ := hst
  refine lv_astore_n C.1 C.2.1 hd rfl hls hi rfl (fun ls1 h1 => ?_)
  subst hf
  exact kk p l e s m args below meth c A D ws0 C hX H locs ws tys ls1 _ _ hK hP hD hS hR hn he ⟨_, _, rfl, ⟨a, e1, h2, rfl⟩, rl.filter1 _ hl⟩ h1 hst
theorem aw_astoreX_n {i : Fin 4} {x : UInt32} {lv2 : List (Nat × Value)} (hd : decode M.2.1 pc = .ok (.astore_n i, 1)) (hi : (i : Nat) < M.2.2.1) (hf : ((i : Nat), Value.float x) :: lv.filter (fun q => !(q.1 == (i : Nat)) && !(q.1 + 1 == (i : Nat) && q.2.category == 2)) = lv2) (kk : AW X M R gc gs Po PX k j (pc + 1) lv2 st h n) : AW X M R gc gs Po PX k j pc lv (.float x :: st) h n := by
  intro p l e s m args below meth c A D ws0 C hX H locs ws tys ls lv' st' hK hP hD hS hR hn he hl hls hst
  obtain ⟨_, st1, rfl, ⟨q, rfl⟩, hst⟩ := hst
  refine lv_astore_n C.1 C.2.1 hd rfl hls hi rfl (fun ls1 h1 => ?_)
  subst hf
  exact kk p l e s m args below meth c A D ws0 C hX H locs ws tys ls1 _ _ hK hP hD hS hR hn he ⟨_, _, rfl, ⟨q, rfl⟩, rl.filter1 _ hl⟩ h1 hst
theorem aw_astore {i : Nat} {x : Nat} {lv2 : List (Nat × Value)} (hd : decode M.2.1 pc = .ok (.astore i, 2)) (hi : i < M.2.2.1) (hf : (i, Value.ref x) :: lv.filter (fun q => !(q.1 == i) && !(q.1 + 1 == i && q.2.category == 2)) = lv2) (kk : AW X M R gc gs Po PX k j (pc + 2) lv2 st h n) : AW X M R gc gs Po PX k j pc lv (.ref x :: st) h n := by
  intro p l e s m args below meth c A D ws0 C hX H locs ws tys ls lv' st' hK hP hD hS hR hn he hl hls hst
  obtain ⟨_, st1, rfl, ⟨a, e1, h2, rfl⟩, hst⟩ := hst
  refine lv_astore C.1 C.2.1 hd hls hi rfl (fun ls1 h1 => ?_)
  subst hf
  exact kk p l e s m args below meth c A D ws0 C hX H locs ws tys ls1 _ _ hK hP hD hS hR hn he ⟨_, _, rfl, ⟨a, e1, h2, rfl⟩, rl.filter1 _ hl⟩ h1 hst
theorem aw_astoreX {i : Nat} {x : UInt32} {lv2 : List (Nat × Value)} (hd : decode M.2.1 pc = .ok (.astore i, 2)) (hi : i < M.2.2.1) (hf : (i, Value.float x) :: lv.filter (fun q => !(q.1 == i) && !(q.1 + 1 == i && q.2.category == 2)) = lv2) (kk : AW X M R gc gs Po PX k j (pc + 2) lv2 st h n) : AW X M R gc gs Po PX k j pc lv (.float x :: st) h n := by
  intro p l e s m args below meth c A D ws0 C hX H locs ws tys ls lv' st' hK hP hD hS hR hn he hl hls hst
  obtain ⟨_, st1, rfl, ⟨q, rfl⟩, hst⟩ := hst
  refine lv_astore C.1 C.2.1 hd hls hi rfl (fun ls1 h1 => ?_)
  subst hf
  exact kk p l e s m args below meth c A D ws0 C hX H locs ws tys ls1 _ _ hK hP hD hS hR hn he ⟨_, _, rfl, ⟨q, rfl⟩, rl.filter1 _ hl⟩ h1 hst
end AWR
