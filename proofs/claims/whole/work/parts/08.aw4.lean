/-- a throw that comes out of a call at pc -/
def AWX (X : State → (Nat → Prop) → Prop) (M : aM) (R : Room) (gc gs : Nat) (Po : Option Value → aH → Nat → Prop) (PX : String → aH → Nat → Prop) (k j pc : Nat) (lv : List (Nat × Value)) (h : aH) (n : Nat) (E : String) : Prop :=
  ∀ (p : Program) (l : Launch) (e : Env) (s : State) (m : MethodId) (args : Array Value) (below : List Frame) (meth : Method) (c : Code) (A : Nat → Prop) (D : va_G) (ws0 : va_W), aw_C p l s m args meth c M A → X s A →
  ∀ (H : Heap) (locs : List Loc) (ws : va_W) (tys : aT) (ls : Array Slot) (lv' : List (Nat × Value)) (rest' : List Value), va_K D vwCl tys s → va_P D vwCl ws H → va_D A ws → va_S A s.heap H locs → rel h ws tys → ws.length = n → ex ws0 ws → rl ws lv lv' → lv_has ls M.2.2.1 lv' →
  ∀ (q : Addr) (ce : Cell), H[q]? = some ce → ce.vm = .none → s.vm.findClass E = some ce.cls →
  vx_W p l e R s m args below meth c H locs k j (vx_MQ below (aw_Qc D A ws0 gc gs Po) (aw_XC D A ws0 PX) args s R.cells R.slots A) (F0 m pc ls rest') q
/-- the contract's start, in any state that the caller comes to -/
theorem aw_pre {p : Program} {l : Launch} {s : State} {m : MethodId} {args : Array Value} {meth : Method} {c : Code} {M : aM} {A : Nat → Prop} {D : va_G} {H : Heap} {locs : List Loc} {ws : va_W} {tys : aT} {av' : List Value}
    (C : aw_C p l s m args meth c M A) (hK : va_K D vwCl tys s) (hP : va_P D vwCl ws H) (hD : va_D A ws) (hS : va_S A s.heap H locs) :
    PreS s H (va_Pc av' (fun U => U.heap.size = H.size ∧ va_P D vwCl ws U.heap ∧ va_K D vwCl tys U ∧ va_D (fun _ => True) ws ∧ aw_cx (va_A ws H.size) U U.heap)) av' := by
  obtain ⟨-, -, -, -, -, -, -, -, -, hA, -, hcx⟩ := C
  refine ⟨fun a U g mk q => ?_, fun U hU hW => ?_⟩
  · obtain ⟨q0, q1, qP, qK, qD, qc⟩ := q
    exact ⟨q0, q1, qP, va_K.moved (u := U) (U := U.calling g mk a) (Vm.Alike.refl U.vm) qK, qD, qc.moved (s := U) (U := U.calling g mk a) (State.WarmedH.refl U) (fun _ _ _ => rfl) (fun _ h => h)⟩
  · refine ⟨rfl, by rw [hU], by rw [hU]; exact hP, va_K.moved hW.alike hK, hD.weaken (fun _ _ _ _ => trivial), ?_⟩
    rw [hU]
    refine hcx.moved hW hS.2.1 (fun q h => ?_)
    rcases h with ⟨i, e, h⟩ | h
    · exact hD.2 i _ h
    · exact hA q (Nat.le_trans hS.1 h)
theorem aw_inA {p : Program} {l : Launch} {s : State} {m : MethodId} {args : Array Value} {meth : Method} {c : Code} {M : aM} {A : Nat → Prop} {H : Heap} {locs : List Loc} {ws : va_W}
    (C : aw_C p l s m args meth c M A) (hD : va_D A ws) (hS : va_S A s.heap H locs) : ∀ q, va_A ws H.size q → A q := by
  obtain ⟨-, -, -, -, -, -, -, -, -, hA, -, -⟩ := C
  intro q h
  rcases h with ⟨i, e, h⟩ | h
  · exact hD.2 i _ h
  · exact hA q (Nat.le_trans hS.1 h)
theorem drop_sum (f : Cell → Nat) (l l2 : List Cell) (a : Nat) (ha : a ≤ l.length) (hl : ∀ (i : Nat) (c : Cell), l[i]? = some c → ∃ c', l2[i]? = some c' ∧ f c' = f c) : ((l2.drop a).map f).sum = ((l.drop a).map f).sum + ((l2.drop l.length).map f).sum := by
  have hlen : l.length ≤ l2.length := by
    rcases Nat.lt_or_ge l2.length l.length with h | h
    · obtain ⟨c', h1, -⟩ := hl l2.length _ (List.getElem?_eq_getElem h)
      simp at h1
    · exact h
  have e1 : l2.drop a = (l2.take l.length).drop a ++ l2.drop l.length := by
    conv => lhs; rw [← List.take_append_drop l.length l2]
    rw [List.drop_append_of_le_length (by rw [List.length_take]; omega)]
  have e2 : (l2.take l.length).map f = l.map f := by
    apply List.ext_getElem?
    intro i
    rw [List.getElem?_map, List.getElem?_map]
    rcases Nat.lt_or_ge i l.length with h | h
    · obtain ⟨c', h1, h2⟩ := hl i _ (List.getElem?_eq_getElem h)
      rw [List.getElem?_take_of_lt h, h1, List.getElem?_eq_getElem h]
      simp [h2]
    · rw [List.getElem?_eq_none (by rw [List.length_take]; omega), List.getElem?_eq_none h]
  rw [e1, List.map_append, List.sum_append, List.map_drop, e2, ← List.map_drop]
/-- behind a call that returned: the cells that are there, not those that might have come -/
theorem stand_gro {p : Program} {l : Launch} {e : Env} {R : Room} {s : State} {m : MethodId} {args : Array Value} {below : List Frame} {meth : Method} {c : Code} {T T' : State} {locs locs' : List Loc} {k j k2 j2 rc rs : Nat}
    (Y : Stand p l e R s m args below meth c T locs k j) (Y' : Stand p l e R s m args below meth c T' locs' k2 j2) (hg : gro T.heap T'.heap rc rs) : Stand p l e R s m args below meth c T' locs' (k + rc) (j + rs) := by
  obtain ⟨g1, g2, g3⟩ := hg
  obtain ⟨a1, a2, a3, a4, a5, a6⟩ := Y.same
  obtain ⟨b1, b2, b3, b4, b5, b6⟩ := Y'.same
  have a3 : T.heap.size ≤ s.heap.size + k := a3
  have a2 : s.heap.size ≤ T.heap.size := a2
  have a5 : ((T.heap.toList.drop s.heap.size).map (fun c => c.slots.size)).sum ≤ j := a5
  have hd := drop_sum (fun c => c.slots.size) T.heap.toList T'.heap.toList s.heap.size (by simpa using a2) (fun i c hc => by
    rw [Array.getElem?_toList] at hc
    obtain ⟨c', h1, h2⟩ := g2 i c hc
    exact ⟨c', by rw [Array.getElem?_toList]; exact h1, h2⟩)
  rw [Array.length_toList] at hd
  refine { Y' with same := ⟨b1, b2, ?_, b4, ?_, b6⟩ }
  · show T'.heap.size ≤ s.heap.size + (k + rc)
    omega
  · show ((T'.heap.toList.drop s.heap.size).map (fun c => c.slots.size)).sum ≤ j + rs
    omega
section AWR
variable {X : State → (Nat → Prop) → Prop} {M : aM} {R : Room} {gc gs k j pc n : Nat} {Po : Option Value → aH → Nat → Prop} {PX : String → aH → Nat → Prop} {lv : List (Nat × Value)} {st : List Value} {h : aH}
/-- behind a call: the callee's end, whichever, and the caller goes on -/
theorem aw_back {Po2 : Option Value → aH → Nat → Prop} {PX2 : String → aH → Nat → Prop} {mc2 ms2 gc2 gs2 : Nat} {a : Array Value}
    (kk : ∀ (r : Option Value) (h2 : aH) (n2 : Nat), Po2 r h2 n2 → AW X M R gc gs Po PX (k + gc2) (j + gs2) (pc + 3) lv (r.toList ++ st) h2 n2) (kx : ∀ (E : String) (h2 : aH) (n2 : Nat), PX2 E h2 n2 → AWX X M R gc gs Po PX (k + mc2) (j + ms2) pc lv h2 n2 E)
    {p : Program} {l : Launch} {e : Env} {s : State} {m : MethodId} {args : Array Value} {below : List Frame} {meth : Method} {c : Code} {A : Nat → Prop} {D : va_G} {ws0 : va_W} (C : aw_C p l s m args meth c M A) (hX : X s A)
    {H : Heap} {locs : List Loc} {ws : va_W} {ls : Array Slot} {lv' : List (Nat × Value)} {st0 rest' : List Value} (hD : va_D A ws) (hS : va_S A s.heap H locs) (he : ex ws0 ws) (hl : rl ws lv lv') (hls : lv_has ls M.2.2.1 lv') (hst : rs ws st rest')
    (hr : vx_Run p l e R s m args below meth c H locs k j mc2 ms2 (F0 m pc ls st0) rest' (aw_Qc D (va_A ws H.size) ws gc2 gs2 Po2 a) (aw_XC D (va_A ws H.size) ws PX2) (va_A ws H.size)) :
    W p l e R s m args below meth c H locs k j (vx_MQ below (aw_Qc D A ws0 gc gs Po) (aw_XC D A ws0 PX) args s R.cells R.slots A) (F0 m pc ls st0) := by
  have hA1 := aw_inA C hD hS
  intro T hT Y
  rcases hr T hT Y with ⟨v, st₀, t, T', L, h0, X', hL, e1, e2, ⟨hgr, ⟨r, r', h2, ws2, tys2, ho, hpo, hro, hex, hrel, hP2, hK2, hD2⟩, hF⟩, stp⟩ | ⟨q, st₀, t, T', L, E, ce, h0, X', hL, e1, e2, ⟨⟨h2, ws2, tys2, hpx, hex, hrel, hP2, hK2, hD2⟩, hF⟩, hce, hcv, hcl, stp⟩
  · cases ho
    obtain ⟨k1, k2, k3⟩ := vx_keep h0 e1 hS (fun q _ z => hA1 q z) hA1 hL hF
    have hvm : s.vm.Alike t.vm := by rw [← e2]; exact X'.warmed.alike
    have hro2 : rs ws2 (r.toList ++ st) (v.toList ++ rest') := by
      cases r with
      | none => cases hro; exact hst.up hex
      | some w => obtain ⟨w', rfl, hw⟩ := hro; exact ⟨_, _, rfl, hw, hst.up hex⟩
    obtain ⟨t2, a1, b1⟩ := kk r h2 ws2.length hpo p l e s m args below meth c A D ws0 C hX T'.heap (locs ++ L) ws2 tys2 ls lv' _ (va_K.moved hvm.symm hK2) (by rw [e1]; exact hP2) ⟨hD2.1, fun i q hq => hA1 _ (hD2.2 i q hq)⟩ k3 hrel rfl (he.tr hex) (hl.up hex) hls hro2 T' rfl (stand_gro Y X' (by rw [hT, ← h0, e1]; exact hgr))
    exact ⟨t2, stp t2 a1, b1⟩
  · obtain ⟨k1, k2, k3⟩ := vx_keep h0 e1 hS (fun q _ z => hA1 q z) hA1 hL hF
    have hvm : s.vm.Alike t.vm := by rw [← e2]; exact X'.warmed.alike
    obtain ⟨t2, a1, b1⟩ := kx E h2 ws2.length hpx p l e s m args below meth c A D ws0 C hX T'.heap (locs ++ L) ws2 tys2 ls lv' rest' (va_K.moved hvm.symm hK2) (by rw [e1]; exact hP2) ⟨hD2.1, fun i q hq => hA1 _ (hD2.2 i q hq)⟩ k3 hrel rfl (he.tr hex) (hl.up hex) hls q ce (by rw [e1]; exact hce) hcv hcl T' rfl X'
    exact ⟨t2, stp.trans a1, b1⟩
/-- not caught here -/
theorem aw_out {E : String} (ht : M.2.2.2.2 = []) (hk : k ≤ R.cells) (hj : j ≤ R.slots) (hp : PX E h n) : AWX X M R gc gs Po PX k j pc lv h n E := by
  intro p l e s m args below meth c A D ws0 C hX H locs ws tys ls lv' rest' hK hP hD hS hR hn he hl hls q ce hce hcv hcl
  obtain ⟨-, -, -, -, -, hlk, -, -, htb, -⟩ := C
  refine vx_out (fun x hx => ?_) hlk hce hcv hcl (fun t ht hal => ⟨⟨h, ws, tys, by rw [hn]; exact hp, he, hR, by rw [ht]; exact hP, va_K.moved hal hK, hD⟩, hS.F ht⟩) hS.2.2 hk hj
  rw [htb, ht] at hx
  cases hx
theorem aw_outN {E : String} : AWX X M R gc gs Po PX k j pc lv h n E ∨ True := Or.inr trivial
end AWR
/-- what a call asks of the tables -/
def cOK (own : String) (idx : Nat) (M2 : aM) (na : Nat) : Prop := Cond.methodLink own idx M2.1 ∈ tb ∧ Cond.initialized M2.1.cls ∈ tb ∧ Cond.code M2.1 M2.2.1 M2.2.2.1 M2.2.2.2.1 ∈ tb ∧ M2.2.2.2.2 = [] ∧ (M2.1.cls ≠ "java/lang/invoke/MethodHandle" ∧ M2.1.cls ≠ "java/lang/invoke/VarHandle" ∧ (parseMethodDescriptor M2.1.desc).map (fun d => d.parameters.length) = some na)
def cnOK (own : String) (idx : Nat) (host : String) (M2 : aM) (na : Nat) : Prop := Cond.methodLinkNest own idx M2.1 host ∈ lw_tbl ∧ Cond.initialized M2.1.cls ∈ tb ∧ Cond.code M2.1 M2.2.1 M2.2.2.1 M2.2.2.2.1 ∈ tb ∧ M2.2.2.2.2 = [] ∧ (M2.1.cls ≠ "java/lang/invoke/MethodHandle" ∧ M2.1.cls ≠ "java/lang/invoke/VarHandle" ∧ (parseMethodDescriptor M2.1.desc).map (fun d => d.parameters.length) = some na)
theorem wsM_code {M : aM} (h : Cond.code M.1 M.2.1 M.2.2.1 M.2.2.2.1 ∈ tb) (ht : M.2.2.2.2 = []) : GoodIn tb (wsM M) ∧ wsM M = Cond.code M.1 M.2.1 M.2.2.1 M.2.2.2.1 :: tb := by
  refine ⟨wsM_good (by rw [if_pos ht]; exact h), ?_⟩
  unfold wsM
  rw [if_pos ht]
/-- a contract without a throw, in the kit's words -/
theorem met_of_vx {l : Launch} {y : MethodName} {ws : List Cond} {rm : Room} {Pc : Array Value → State → Prop} {Qc : Array Value → State → Outcome → State → Prop} {XC : String → State → State → Prop} {mc ms : Nat} {free : Addr → Prop} (hno : ∀ E st t, XC E st t → False) (h : vx_Met l y ws rm Pc Qc XC mc ms free) : Met l y ws rm Pc Qc mc ms free := by
  refine MetFree.mono h (fun _ _ h => h) (fun _ _ _ _ _ h => h) (fun a st o t _ hq => ?_)
  rcases hq with hq | ⟨q, -, E, ce, L, hx, -⟩
  · exact hq
  · exact (hno E st t hx).elim
theorem vx_of_run {p : Program} {l : Launch} {e : Env} {R : Room} {s : State} {m : MethodId} {args : Array Value} {below : List Frame} {meth : Method} {c : Code} {H : Heap} {locs : List Loc} {cells slots mc ms : Nat} {g : JFrame} {rest : List Value} {Qa : State → Outcome → State → Prop} {XC : String → State → State → Prop} {free : Addr → Prop}
    (h : va_Run p l e R s m args below meth c H locs cells slots mc ms g rest Qa free) : vx_Run p l e R s m args below meth c H locs cells slots mc ms g rest Qa XC free := fun T hT Y => Or.inl (h T hT Y)
