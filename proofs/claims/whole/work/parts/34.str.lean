/-- the text at a, its bytes at v -/
def SX (a v : Nat) : State → (Nat → Prop) → Prop := fun s A => va_Z "java/lang/String" "COMPACT_STRINGS" "Z" (.int 1) A s s.heap ∧ vx_Zq "jdk/internal/util/Preconditions" "SIOOBE_FORMATTER" "Ljava/util/function/BiFunction;" A s s.heap ∧ vk_S 1 [17] [footByt] (fun _ => a) (fun _ => v) A s s.heap ∧ vk_R "RasterMint$Tga" 162 footText a s ∧ vk_R "RasterMintModel" 218 footText a s
theorem SX.of {A : Nat → Prop} {s : State} (h : aw_str A s s.heap) : ∃ a v, SX a v s A := by
  obtain ⟨h1, h0, adK, adV, h2, h3, h4⟩ := h
  exact ⟨adK 0, adV 0, h1, h0, ⟨fun i hi => by obtain rfl : i = 0 := by omega
                                               exact h2.1 0 (by omega), fun i j hi hj _ => by omega⟩, h3, h4⟩
theorem SX.moved {a v : Nat} {A B : Nat → Prop} {s U : State} (h : SX a v s A) (hW : s.WarmedH U.vm) (hq : ∀ q : Nat, q < s.heap.size → ¬ A q → U.heap[q]? = s.heap[q]?) (hB : ∀ q, B q → A q) : SX a v U B := by
  obtain ⟨h1, h0, h2, h3, h4⟩ := h
  exact ⟨(va_Z.moved hW.alike (h1.kept hq)).narrow hB, (vx_Zq.moved hW.alike (h0.kept hq)).narrow hB, (vk_S.moved hW.alike (h2.kept hq)).narrow hB, vk_R.warm hW h3, vk_R.warm hW h4⟩
/-- a contract that asks for the text -/
def AMX (a v : Nat) (M : aM) (d : Nat) (av : List Value) (h : aH) (n mc ms gc gs : Nat) (Po : Option Value → aH → Nat → Prop) (PX : String → aH → Nat → Prop) : Prop :=
  ∀ (l : Launch) (D : va_G) (ws : va_W) (tys : aT) (av' : List Value) (sz : Nat), l.stackTraces = false → rel h ws tys → ws.length = n → rs ws av av' →
    vx_Met l M.1 (wsM M) (rmD d mc ms) (va_Pc av' (fun U => U.heap.size = sz ∧ va_P D vwCl ws U.heap ∧ va_K D vwCl tys U ∧ va_D (fun _ => True) ws ∧ aw_cx (va_A ws sz) U U.heap ∧ SX a v U (va_A ws sz))) (aw_Qc D (va_A ws sz) ws gc gs Po) (aw_XC D (va_A ws sz) ws PX) mc ms (va_A ws sz)
theorem aw_preX {p : Program} {l : Launch} {s : State} {m : MethodId} {args : Array Value} {meth : Method} {c : Code} {M : aM} {A : Nat → Prop} {D : va_G} {H : Heap} {locs : List Loc} {ws : va_W} {tys : aT} {av' : List Value} {a v : Nat}
    (C : aw_C p l s m args meth c M A) (hX : SX a v s A) (hK : va_K D vwCl tys s) (hP : va_P D vwCl ws H) (hD : va_D A ws) (hS : va_S A s.heap H locs) :
    PreS s H (va_Pc av' (fun U => U.heap.size = H.size ∧ va_P D vwCl ws U.heap ∧ va_K D vwCl tys U ∧ va_D (fun _ => True) ws ∧ aw_cx (va_A ws H.size) U U.heap ∧ SX a v U (va_A ws H.size))) av' := by
  have hA1 := aw_inA C hD hS
  obtain ⟨-, -, -, -, -, -, -, -, -, hA, -, hcx⟩ := C
  refine ⟨fun a U g mk q => ?_, fun U hU hW => ?_⟩
  · obtain ⟨q0, q1, qP, qK, qD, qc, qx⟩ := q
    exact ⟨q0, q1, qP, va_K.moved (u := U) (U := U.calling g mk a) (Vm.Alike.refl U.vm) qK, qD, qc.moved (s := U) (U := U.calling g mk a) (State.WarmedH.refl U) (fun _ _ _ => rfl) (fun _ h => h), qx.moved (s := U) (U := U.calling g mk a) (State.WarmedH.refl U) (fun _ _ _ => rfl) (fun _ h => h)⟩
  · refine ⟨rfl, by rw [hU], by rw [hU]; exact hP, va_K.moved hW.alike hK, hD.weaken (fun _ _ _ _ => trivial), ?_, ?_⟩
    · rw [hU]
      exact hcx.moved hW hS.2.1 hA1
    · exact hX.moved hW (by rw [hU]; exact hS.2.1) hA1
theorem aw_ofX {a v : Nat} {M : aM} {d n mc ms gc gs : Nat} {av : List Value} {h : aH} {Po : Option Value → aH → Nat → Prop} {PX : String → aH → Nat → Prop} (hy : plainName M.1.cls = true) (ht : M.2.2.2.2 = []) (hlen : (lg_sl av).length ≤ M.2.2.1)
    (kk : AW (SX a v) M (rmD d mc ms) gc gs Po PX 0 0 0 (lv_args 0 av) [] h n) : AMX a v M d av h n mc ms gc gs Po PX := by
  intro l D ws tys av' sz hl0 hR hn hav
  refine vx_ofW (cc := M.2.1) (maxL := M.2.2.1) (ret := M.2.2.2.1) (ws' := tb) hy (by unfold wsM; rw [if_pos ht]) ?_
  intro p e s m args below meth c s₁ B hml htab hv
  obtain ⟨rfl, hsz, hP, hK, hD0, hcx, hx⟩ := hv
  subst hsz
  have hts := atoms_spec (ws := wsM M) B.pre
  have htl : c.exceptionTable.toList = tableOf M.2.2.2.2 := by
    rw [ht]
    cases hx : c.exceptionTable.toList with
    | nil => rfl
    | cons a l => exact (htab a (by rw [hx]; exact List.mem_cons_self)).elim
  rw [lg_entry_eq]
  exact kk p l e s m _ below meth c (va_A ws s.heap.size) D ws ⟨B.exec, B.bytes, hml, findClass_of_methodNamed B.named, fun w hw => hts w (List.mem_cons_of_mem _ hw), B.notSynchronized, B.returns, (name_of_methodNamed B.named B.method).1, htl, fun q h => Or.inr h, hl0, hcx⟩ hx
    s.heap [] ws tys _ _ [] hK hP hD0.self va_S.rf hR hn ex.rf (rl.args 0 hav) (lv_entry av' (by rw [hav.lgsl]; exact hlen)) rfl
/-- a contract out of a body that asks for the text: wherever it lies -/
theorem aw_ofS {M : aM} {d n mc ms gc gs : Nat} {av : List Value} {h : aH} {Po : Option Value → aH → Nat → Prop} {PX : String → aH → Nat → Prop} (hy : plainName M.1.cls = true) (ht : M.2.2.2.2 = []) (hlen : (lg_sl av).length ≤ M.2.2.1)
    (kk : ∀ a v : Nat, AW (SX a v) M (rmD d mc ms) gc gs Po PX 0 0 0 (lv_args 0 av) [] h n) : AM M d av h n mc ms gc gs Po PX := by
  intro l D ws tys av' sz hl0 hR hn hav
  refine vx_ofW (cc := M.2.1) (maxL := M.2.2.1) (ret := M.2.2.2.1) (ws' := tb) hy (by unfold wsM; rw [if_pos ht]) ?_
  intro p e s m args below meth c s₁ B hml htab hv
  obtain ⟨rfl, hsz, hP, hK, hD0, hcx⟩ := hv
  subst hsz
  have hts := atoms_spec (ws := wsM M) B.pre
  have htl : c.exceptionTable.toList = tableOf M.2.2.2.2 := by
    rw [ht]
    cases hx : c.exceptionTable.toList with
    | nil => rfl
    | cons a l => exact (htab a (by rw [hx]; exact List.mem_cons_self)).elim
  obtain ⟨a, v, hx⟩ := SX.of hcx.2.2.2.2.2.2.2.2
  rw [lg_entry_eq]
  exact kk a v p l e s m _ below meth c (va_A ws s.heap.size) D ws ⟨B.exec, B.bytes, hml, findClass_of_methodNamed B.named, fun w hw => hts w (List.mem_cons_of_mem _ hw), B.notSynchronized, B.returns, (name_of_methodNamed B.named B.method).1, htl, fun q h => Or.inr h, hl0, hcx⟩ hx
    s.heap [] ws tys _ _ [] hK hP hD0.self va_S.rf hR hn ex.rf (rl.args 0 hav) (lv_entry av' (by rw [hav.lgsl]; exact hlen)) rfl
section AWR
variable {a v : Nat} {M : aM} {R : Room} {gc gs k j pc n : Nat} {Po : Option Value → aH → Nat → Prop} {PX : String → aH → Nat → Prop} {lv : List (Nat × Value)} {st : List Value} {h : aH}
variable {M2 : aM} {Po2 : Option Value → aH → Nat → Prop} {PX2 : String → aH → Nat → Prop} {d2 mc2 ms2 gc2 gs2 idx na : Nat} {av st0 : List Value}
theorem aw_ldcT (hd : decode M.2.1 pc = .ok (.ldc idx, 2)) (hm : (M.1.cls = "RasterMint$Tga" ∧ idx = 162) ∨ (M.1.cls = "RasterMintModel" ∧ idx = 218)) (kk : AW (SX a v) M R gc gs Po PX k j (pc + 2) lv (.retAddr a :: st) h n) : AW (SX a v) M R gc gs Po PX k j pc lv st h n := by
  intro p l e s m args below meth c A D ws0 C hX H locs ws tys ls lv' st' hK hP hD hS hR hn he hl hls hst
  have hr : vk_R M.1.cls idx footText a s := by
    rcases hm with ⟨e1, e2⟩ | ⟨e1, e2⟩
    · rw [e1, e2]; exact hX.2.2.2.1
    · rw [e1, e2]; exact hX.2.2.2.2
  exact va_ldcS C.1 C.2.1 C.2.2.2.1 hr hd (kk p l e s m args below meth c A D ws0 C hX H locs ws tys ls lv' _ hK hP hD hS hR hn he hl hls ⟨_, _, rfl, rfl, hst⟩)
theorem aw_astoreA_n {i : Fin 4} {x : Nat} {X : State → (Nat → Prop) → Prop} {lv2 : List (Nat × Value)} (hd : decode M.2.1 pc = .ok (.astore_n i, 1)) (hi : (i : Nat) < M.2.2.1) (hf : ((i : Nat), Value.retAddr x) :: lv.filter (fun q => !(q.1 == (i : Nat)) && !(q.1 + 1 == (i : Nat) && q.2.category == 2)) = lv2) (kk : AW X M R gc gs Po PX k j (pc + 1) lv2 st h n) : AW X M R gc gs Po PX k j pc lv (.retAddr x :: st) h n := by
  intro p l e s m args below meth c A D ws0 C hX H locs ws tys ls lv' st' hK hP hD hS hR hn he hl hls hst
  obtain ⟨_, st1, rfl, rfl, hst⟩ := hst
  refine lv_astore_n C.1 C.2.1 hd rfl hls hi rfl (fun ls1 h1 => ?_)
  subst hf
  exact kk p l e s m args below meth c A D ws0 C hX H locs ws tys ls1 _ _ hK hP hD hS hR hn he ⟨_, _, rfl, rfl, rl.filter1 _ hl⟩ h1 hst
theorem aw_valT (hd : decode M.2.1 pc = .ok (.getfield idx, 3)) (hf : Cond.fieldLink M.1.cls idx "java/lang/String" "value" "[B" ∈ tb) (kk : AW (SX a v) M R gc gs Po PX k j (pc + 3) lv (.retAddr v :: st) h n) : AW (SX a v) M R gc gs Po PX k j pc lv (.retAddr a :: st) h n := by
  intro p l e s m args below meth c A D ws0 C hX H locs ws tys ls lv' st' hK hP hD hS hR hn he hl hls hst
  obtain ⟨_, st1, rfl, rfl, hst⟩ := hst
  exact vk_getf C.1 C.2.1 (hX.2.2.1.1 0 (by omega)).2.2.1 hS C.2.2.2.1 (C.2.2.2.2.1 _ hf) (fun _ h => h) hd (kk p l e s m args below meth c A D ws0 C hX H locs ws tys ls lv' _ hK hP hD hS hR hn he hl hls ⟨_, _, rfl, rfl, hst⟩)
theorem aw_codT (hd : decode M.2.1 pc = .ok (.getfield idx, 3)) (hf : Cond.fieldLink M.1.cls idx "java/lang/String" "coder" "B" ∈ tb) (kk : AW (SX a v) M R gc gs Po PX k j (pc + 3) lv (.int 0 :: st) h n) : AW (SX a v) M R gc gs Po PX k j pc lv (.retAddr a :: st) h n := by
  intro p l e s m args below meth c A D ws0 C hX H locs ws tys ls lv' st' hK hP hD hS hR hn he hl hls hst
  obtain ⟨_, st1, rfl, rfl, hst⟩ := hst
  exact vk_getf C.1 C.2.1 (hX.2.2.1.1 0 (by omega)).2.1 hS C.2.2.2.1 (C.2.2.2.2.1 _ hf) (fun _ h => h) hd (kk p l e s m args below meth c A D ws0 C hX H locs ws tys ls lv' _ hK hP hD hS hR hn he hl hls ⟨_, _, rfl, rfl, hst⟩)
theorem aw_lenT (hd : decode M.2.1 pc = .ok (.arraylength, 1)) (kk : AW (SX a v) M R gc gs Po PX k j (pc + 1) lv (.int 17 :: st) h n) : AW (SX a v) M R gc gs Po PX k j pc lv (.retAddr v :: st) h n := by
  intro p l e s m args below meth c A D ws0 C hX H locs ws tys ls lv' st' hK hP hD hS hR hn he hl hls hst
  obtain ⟨_, st1, rfl, rfl, hst⟩ := hst
  exact va_tlen C.1 C.2.1 (hX.2.2.1.1 0 (by omega)).2.2.2 hS (v := 17) (by decide) hd (kk p l e s m args below meth c A D ws0 C hX H locs ws tys ls lv' _ hK hP hD hS hR hn he hl hls ⟨_, _, rfl, rfl, hst⟩)
theorem aw_baldT {i : Int32} (hd : decode M.2.1 pc = .ok (.baload, 1)) (hi : vp_in i 17) (kk : AW (SX a v) M R gc gs Po PX k j (pc + 1) lv (.int (footByt.getD i.toNatClampNeg 0) :: st) h n) : AW (SX a v) M R gc gs Po PX k j pc lv (.int i :: .retAddr v :: st) h n := by
  intro p l e s m args below meth c A D ws0 C hX H locs ws tys ls lv' st' hK hP hD hS hR hn he hl hls hst
  obtain ⟨_, st1, rfl, rfl, hst⟩ := hst
  obtain ⟨_, st1, rfl, rfl, hst⟩ := hst
  exact va_tb C.1 C.2.1 (hX.2.2.1.1 0 (by omega)).2.2.2 hS hi rfl hd (kk p l e s m args below meth c A D ws0 C hX H locs ws tys ls lv' _ hK hP hD hS hR hn he hl hls ⟨_, _, rfl, rfl, hst⟩)
theorem aw_cmpT (hd : decode M.2.1 pc = .ok (.getstatic idx, 3)) (hf : Cond.fieldLink M.1.cls idx "java/lang/String" "COMPACT_STRINGS" "Z" ∈ tb) (kk : AW (SX a v) M R gc gs Po PX k j (pc + 3) lv (.int 1 :: st) h n) : AW (SX a v) M R gc gs Po PX k j pc lv st h n := by
  intro p l e s m args below meth c A D ws0 C hX H locs ws tys ls lv' st' hK hP hD hS hR hn he hl hls hst
  exact va_gets C.1 C.2.1 hX.1 hS C.2.2.2.1 (C.2.2.2.2.1 _ hf) (fun _ h => h) hd (kk p l e s m args below meth c A D ws0 C hX H locs ws tys ls lv' _ hK hP hD hS hR hn he hl hls ⟨_, _, rfl, rfl, hst⟩)
theorem aw_fmtT (hd : decode M.2.1 pc = .ok (.getstatic idx, 3)) (hf : Cond.fieldLink M.1.cls idx "jdk/internal/util/Preconditions" "SIOOBE_FORMATTER" "Ljava/util/function/BiFunction;" ∈ tb) (kk : ∀ w : Value, (w = .null ∨ ∃ t, w = .retAddr t) → AW (SX a v) M R gc gs Po PX k j (pc + 3) lv (w :: st) h n) : AW (SX a v) M R gc gs Po PX k j pc lv st h n := by
  intro p l e s m args below meth c A D ws0 C hX H locs ws tys ls lv' st' hK hP hD hS hR hn he hl hls hst
  rcases hX.2.1.1 with hz | ⟨t, hz⟩
  · exact va_gets C.1 C.2.1 hz hS C.2.2.2.1 (C.2.2.2.2.1 _ hf) (fun _ h => h) hd (kk .null (Or.inl rfl) p l e s m args below meth c A D ws0 C hX H locs ws tys ls lv' _ hK hP hD hS hR hn he hl hls ⟨_, _, rfl, rfl, hst⟩)
  · exact va_gets C.1 C.2.1 hz hS C.2.2.2.1 (C.2.2.2.2.1 _ hf) (fun _ h => h) hd (kk (.retAddr t) (Or.inr ⟨t, rfl⟩) p l e s m args below meth c A D ws0 C hX H locs ws tys ls lv' _ hK hP hD hS hR hn he hl hls ⟨_, _, rfl, rfl, hst⟩)
/-- a call on the text -/
theorem aw_callT (hd : decode M.2.1 pc = .ok (.invokevirtual idx, 3)) (hw : cOK M.1.cls idx M2 na ∧ Cond.instanceMethod M2.1 ∈ tb ∧ Cond.selects "java/lang/String" M2.1 M2.1 ∈ tb) (hs : st0 = av.reverse ++ .retAddr a :: st) (hc : AMX a v M2 d2 (.retAddr a :: av) h n mc2 ms2 gc2 gs2 Po2 (fun _ _ _ => False)) (hna : av.length = na) (hsum : (st.map Value.category).sum ≤ 8) (hfr : 2 * d2 + 1 ≤ R.frames) (hlo : 8 + (M2.2.2.1 + 11) + 60 * d2 ≤ R.locals) (hcl : k + mc2 ≤ R.cells) (hsl : j + ms2 ≤ R.slots) (kk : ∀ (r : Option Value) (h2 : aH) (n2 : Nat), Po2 r h2 n2 → AW (SX a v) M R gc gs Po PX (k + gc2) (j + gs2) (pc + 3) lv (r.toList ++ st) h2 n2) : AW (SX a v) M R gc gs Po PX k j pc lv st0 h n := by
  intro p l e s m args below meth c A D ws0 C hX H locs ws tys ls lv' st' hK hP hD hS hR hn he hl hls hst
  subst hs
  obtain ⟨b1, b2, rfl, hb1, _, rest', rfl, rfl, hst2⟩ := hst.split
  have hav1 : rs ws av b1.reverse := by have := hb1.rev; rwa [List.reverse_reverse] at this
  have hav : rs ws (.retAddr a :: av) (.ref a :: b1.reverse) := ⟨_, _, rfl, rfl, hav1⟩
  obtain ⟨⟨w1, w2, w3, w4, w5⟩, w6, w8⟩ := hw
  have hcb : CallB R s args M.1.cls idx M2.1 M2.2.1 M2.2.2.1 M2.2.2.2.1 (wsM M2) (rmD d2 mc2 ms2) mc2 ms2 na := callB_of na C.2.2.2.2.1 (wsM_code w3 w4).1 (wsM_code w3 w4).2 rfl rfl (C.2.2.2.2.1 _ w2) (C.2.2.2.2.1 _ w1) w5 ⟨hfr, hlo⟩
  have hM := hc l D ws tys _ H.size C.2.2.2.2.2.2.2.2.2.2.1 hR hn hav
  have hpre := aw_preX (av' := .ref a :: b1.reverse) C hX hK hP hD hS
  exact aw_back (PX2 := fun _ _ _ => False) kk (fun _ _ _ hf => False.elim hf) C hX hD hS he hl hls hst2 (vx_runV (C := "java/lang/String") (As := b1.reverse) (nL := M.2.2.1) ⟨C.1, C.2.1, C.2.2.1, C.2.2.2.1, C.2.2.2.2.1⟩ hM ⟨hcb, C.2.2.2.2.1 _ w6, C.2.2.2.2.1 _ w8⟩ ⟨hpre.1, vk_recv hX.2.2.1 (i := 0) (by omega) hS, hpre.2⟩ rfl (by rw [List.length_reverse, hb1.len, List.length_reverse]; exact hna) hls.1 (by rw [List.reverse_reverse]) (lv_room (by rw [show (rest'.map fun v => v.category) = rest'.map Value.category from rfl, hst2.cat]; exact hsum)) hd ⟨hcl, hsl⟩)
/-- a static call that asks for the text -/
theorem aw_callST (hd : decode M.2.1 pc = .ok (.invokestatic idx, 3)) (hw : cOK M.1.cls idx M2 na ∧ Cond.static M2.1 ∈ tb) (hs : st0 = av.reverse ++ st) (hc : AMX a v M2 d2 av h n mc2 ms2 gc2 gs2 Po2 (fun _ _ _ => False)) (hna : av.length = na) (hsum : (st.map Value.category).sum ≤ 8) (hfr : 2 * d2 + 1 ≤ R.frames) (hlo : 8 + (M2.2.2.1 + 11) + 60 * d2 ≤ R.locals) (hcl : k + mc2 ≤ R.cells) (hsl : j + ms2 ≤ R.slots) (kk : ∀ (r : Option Value) (h2 : aH) (n2 : Nat), Po2 r h2 n2 → AW (SX a v) M R gc gs Po PX (k + gc2) (j + gs2) (pc + 3) lv (r.toList ++ st) h2 n2) : AW (SX a v) M R gc gs Po PX k j pc lv st0 h n := by
  intro p l e s m args below meth c A D ws0 C hX H locs ws tys ls lv' st' hK hP hD hS hR hn he hl hls hst
  subst hs
  obtain ⟨b1, rest', rfl, hb1, hst2⟩ := hst.split
  have hav : rs ws av b1.reverse := by have := hb1.rev; rwa [List.reverse_reverse] at this
  obtain ⟨⟨w1, w2, w3, w4, w5⟩, w6⟩ := hw
  have hcb : CallB R s args M.1.cls idx M2.1 M2.2.1 M2.2.2.1 M2.2.2.2.1 (wsM M2) (rmD d2 mc2 ms2) mc2 ms2 na := callB_of na C.2.2.2.2.1 (wsM_code w3 w4).1 (wsM_code w3 w4).2 rfl rfl (C.2.2.2.2.1 _ w2) (C.2.2.2.2.1 _ w1) w5 ⟨hfr, hlo⟩
  have hM := hc l D ws tys _ H.size C.2.2.2.2.2.2.2.2.2.2.1 hR hn hav
  have hpre := aw_preX (av' := b1.reverse) C hX hK hP hD hS
  exact aw_back (PX2 := fun _ _ _ => False) kk (fun _ _ _ hf => False.elim hf) C hX hD hS he hl hls hst2 (vx_runS (As := b1.reverse) (nL := M.2.2.1) ⟨C.1, C.2.1, C.2.2.1, C.2.2.2.1, C.2.2.2.2.1⟩ hM ⟨hcb, C.2.2.2.2.1 _ w6⟩ hpre rfl (by rw [List.length_reverse, hb1.len, List.length_reverse]; exact hna) hls.1 (by rw [List.reverse_reverse]) (lv_room (by rw [show (rest'.map fun v => v.category) = rest'.map Value.category from rfl, hst2.cat]; exact hsum)) hd ⟨hcl, hsl⟩)
end AWR
theorem tw1248 : Cond.instanceMethod yJ0_length_8abf5 ∈ tb := tc5 (i := 168) (by decide +kernel) rfl
theorem tw1249 : Cond.selects RJ0 yJ0_length_8abf5 yJ0_length_8abf5 ∈ tb := tc5 (i := 169) (by decide +kernel) rfl
theorem ctX9_164 : cOK RX9 164 mJ0_length_8abf5 0 ∧ Cond.instanceMethod mJ0_length_8abf5.1 ∈ tb ∧ Cond.selects "java/lang/String" mJ0_length_8abf5.1 mJ0_length_8abf5.1 ∈ tb := ⟨⟨tw1247, tw142, tw1250, rfl, by decide +kernel⟩, tw1248, tw1249⟩
theorem tw1258 : Cond.instanceMethod yJ0_charAt_5068e ∈ tb := tc5 (i := 178) (by decide +kernel) rfl
theorem tw1259 : Cond.selects RJ0 yJ0_charAt_5068e yJ0_charAt_5068e ∈ tb := tc5 (i := 179) (by decide +kernel) rfl
theorem ctX9_169 : cOK RX9 169 mJ0_charAt_5068e 1 ∧ Cond.instanceMethod mJ0_charAt_5068e.1 ∈ tb ∧ Cond.selects "java/lang/String" mJ0_charAt_5068e.1 mJ0_charAt_5068e.1 ∈ tb := ⟨⟨tw1257, tw142, tw1260, rfl, by decide +kernel⟩, tw1258, tw1259⟩
theorem ctX11_220 : cOK RX11 220 mJ0_charAt_5068e 1 ∧ Cond.instanceMethod mJ0_charAt_5068e.1 ∈ tb ∧ Cond.selects "java/lang/String" mJ0_charAt_5068e.1 mJ0_charAt_5068e.1 ∈ tb := ⟨⟨tw1655, tw142, tw1260, rfl, by decide +kernel⟩, tw1258, tw1259⟩
theorem tw1252 : Cond.instanceMethod yJ0_coder_7d493 ∈ tb := tc5 (i := 172) (by decide +kernel) rfl
theorem tw1253 : Cond.selects RJ0 yJ0_coder_7d493 yJ0_coder_7d493 ∈ tb := tc5 (i := 173) (by decide +kernel) rfl
theorem ctJ0_335 : cOK RJ0 335 mJ0_coder_7d493 0 ∧ Cond.instanceMethod mJ0_coder_7d493.1 ∈ tb ∧ Cond.selects "java/lang/String" mJ0_coder_7d493.1 mJ0_coder_7d493.1 ∈ tb := ⟨⟨tw1251, tw142, tw1254, rfl, by decide +kernel⟩, tw1252, tw1253⟩
theorem tw1262 : Cond.instanceMethod yJ0_isLatin1_aae02 ∈ tb := tc5 (i := 182) (by decide +kernel) rfl
theorem tw1263 : Cond.selects RJ0 yJ0_isLatin1_aae02 yJ0_isLatin1_aae02 ∈ tb := tc5 (i := 183) (by decide +kernel) rfl
theorem ctJ0_492 : cOK RJ0 492 mJ0_isLatin1_aae02 0 ∧ Cond.instanceMethod mJ0_isLatin1_aae02.1 ∈ tb ∧ Cond.selects "java/lang/String" mJ0_isLatin1_aae02.1 mJ0_isLatin1_aae02.1 ∈ tb := ⟨⟨tw1261, tw142, tw1264, rfl, by decide +kernel⟩, tw1262, tw1263⟩
theorem tw1835 : Cond.fieldLink RJ0 9 "java/lang/String" "value" "[B" ∈ tb := tc8 (i := 35) (by decide +kernel) rfl
theorem tw1836 : Cond.fieldLink RJ0 15 "java/lang/String" "coder" "B" ∈ tb := tc8 (i := 36) (by decide +kernel) rfl
theorem tw1255 : Cond.fieldLink RJ0 38 "java/lang/String" "COMPACT_STRINGS" "Z" ∈ tb := tc5 (i := 175) (by decide +kernel) rfl
theorem tw1271 : Cond.fieldLink RJ0 1053 "jdk/internal/util/Preconditions" "SIOOBE_FORMATTER" "Ljava/util/function/BiFunction;" ∈ tb := tc5 (i := 191) (by decide +kernel) rfl
abbrev footC (i : Int32) : Int32 := footByt.getD i.toNatClampNeg 0
theorem footC_ok {i : Int32} (hi : inb i 17) : (((footC i &&& 255).toUInt32 % 65536).toInt32 = footC i) ∧ narrow .char (.int (footC i)) = .int (footC i) := by
  have h2 : i.toNatClampNeg < 17 := by
    show i.toInt.toNat < 17
    omega
  unfold footC
  generalize i.toNatClampNeg = m at h2
  have : ∀ m : Fin 17, (((footByt.getD (m : Nat) 0 &&& 255).toUInt32 % 65536).toInt32 = footByt.getD (m : Nat) 0) ∧ narrow .char (.int (footByt.getD (m : Nat) 0)) = .int (footByt.getD (m : Nat) 0) := by decide +kernel
  exact this ⟨m, h2⟩
theorem kJ0_coder {a v : Nat} (h : aH) (n : Nat) : AMX a v mJ0_coder_7d493 1 [.retAddr a] h n 0 0 0 0 (isV (.int 0) h n) noX := by
  refine aw_ofX (by decide +kernel) rfl (Nat.le_of_ble_eq_true rfl) ?_
  refine aw_cmpT dJ0_coder_7d493_0 tw1255 ?_
  refine aw_if_eq (tgt := 13) dJ0_coder_7d493_3 (by decide) (fun c => absurd c (by decide)) (fun _ => ?_)
  refine aw_aload_nA dJ0_coder_7d493_6 rfl ?_
  refine aw_codT dJ0_coder_7d493_7 tw1836 ?_
  refine aw_goto (tgt := 14) dJ0_coder_7d493_10 (by decide) ?_
  exact aw_zret dJ0_coder_7d493_14 rfl (by decide) (Nat.zero_le _) (Nat.zero_le _) (Nat.zero_le _) (Nat.zero_le _) ⟨rfl, rfl, rfl⟩
theorem kJ0_isLatin1 {a v : Nat} (h : aH) (n : Nat) : AMX a v mJ0_isLatin1_aae02 1 [.retAddr a] h n 0 0 0 0 (isV (.int 1) h n) noX := by
  refine aw_ofX (by decide +kernel) rfl (Nat.le_of_ble_eq_true rfl) ?_
  refine aw_cmpT dJ0_isLatin1_aae02_0 tw1255 ?_
  refine aw_if_eq (tgt := 17) dJ0_isLatin1_aae02_3 (by decide) (fun c => absurd c (by decide)) (fun _ => ?_)
  refine aw_aload_nA dJ0_isLatin1_aae02_6 rfl ?_
  refine aw_codT dJ0_isLatin1_aae02_7 tw1836 ?_
  refine aw_if_ne (tgt := 17) dJ0_isLatin1_aae02_10 (by decide) (fun c => absurd rfl c) (fun _ => ?_)
  refine aw_iconst (v := 1) dJ0_isLatin1_aae02_13 (by decide) ?_
  refine aw_goto (tgt := 18) dJ0_isLatin1_aae02_14 (by decide) ?_
  exact aw_zret dJ0_isLatin1_aae02_18 rfl (by decide) (Nat.zero_le _) (Nat.zero_le _) (Nat.zero_le _) (Nat.zero_le _) ⟨rfl, rfl, rfl⟩
theorem kJ0_length {a v : Nat} (h : aH) (n : Nat) : AMX a v mJ0_length_8abf5 2 [.retAddr a] h n 0 0 0 0 (isV (.int 17) h n) noX := by
  refine aw_ofX (by decide +kernel) rfl (Nat.le_of_ble_eq_true rfl) ?_
  refine aw_aload_nA dJ0_length_8abf5_0 rfl ?_
  refine aw_valT dJ0_length_8abf5_1 tw1835 ?_
  refine aw_lenT dJ0_length_8abf5_4 ?_
  refine aw_aload_nA dJ0_length_8abf5_5 rfl ?_
  refine aw_callT dJ0_length_8abf5_6 ctJ0_335 rfl (kJ0_coder h n) rfl (Nat.le_of_ble_eq_true rfl) (by decide) (by decide) (by decide) (by decide) (fun r6 h6 n6 hp6 => ?_)
  obtain ⟨rfl, rfl, rfl⟩ := hp6
  refine aw_ishr dJ0_length_8abf5_9 ?_
  exact aw_iret dJ0_length_8abf5_10 rfl (Nat.zero_le _) (Nat.zero_le _) (Nat.zero_le _) (Nat.zero_le _) ⟨by decide, rfl, rfl⟩
theorem kJ3_checkIndex (h : aH) (n : Nat) (i l : Int32) (w : Value) (hw : w = .null ∨ ∃ t, w = .retAddr t) (h0 : ¬ i < 0) (h1 : i < l) : AM mJ3_checkIndex_8e157 1 [.int i, .int l, w] h n 0 0 0 0 (isV (.int i) h n) noX := by
  have hl : lv_args 0 [Value.int i, .int l, w] = [(0, .int i), (1, .int l), (2, w)] := by rcases hw with rfl | ⟨t, rfl⟩ <;> rfl
  refine aw_of (by decide +kernel) rfl (by rcases hw with rfl | ⟨t, rfl⟩ <;> exact Nat.le_of_ble_eq_true rfl) ?_
  rw [hl]
  refine aw_iload_n dJ3_checkIndex_8e157_0 rfl ?_
  refine aw_if_lt (tgt := 9) dJ3_checkIndex_8e157_1 (by decide) (fun c => absurd c h0) (fun _ => ?_)
  refine aw_iload_n dJ3_checkIndex_8e157_4 rfl ?_
  refine aw_iload_n dJ3_checkIndex_8e157_5 rfl ?_
  refine aw_icmp_lt (tgt := 16) dJ3_checkIndex_8e157_6 (by decide) (fun _ => ?_) (fun c => absurd h1 c)
  refine aw_iload_n dJ3_checkIndex_8e157_16 rfl ?_
  exact aw_iret dJ3_checkIndex_8e157_17 rfl (Nat.zero_le _) (Nat.zero_le _) (Nat.zero_le _) (Nat.zero_le _) ⟨rfl, rfl, rfl⟩
theorem kJ0_checkIndex {a v : Nat} (h : aH) (n : Nat) (i l : Int32) (h0 : ¬ i < 0) (h1 : i < l) : AMX a v mJ0_checkIndex_df160 2 [.int i, .int l] h n 0 0 0 0 (fun r h2 n2 => r = none ∧ h = h2 ∧ n = n2) noX := by
  refine aw_ofX (by decide +kernel) rfl (Nat.le_of_ble_eq_true rfl) ?_
  refine aw_iload_n dJ0_checkIndex_df160_0 rfl ?_
  refine aw_iload_n dJ0_checkIndex_df160_1 rfl ?_
  refine aw_fmtT dJ0_checkIndex_df160_2 tw1271 (fun w hw => ?_)
  refine aw_callS (av := [.int i, .int l, w]) (st := []) dJ0_checkIndex_df160_5 csJ0_1059 rfl (kJ3_checkIndex h n i l w hw h0 h1) rfl (Nat.le_of_ble_eq_true rfl) (by decide) (by decide) (by decide) (by decide) (fun _ _ _ hf => False.elim hf) (fun r5 h5 n5 hp5 => ?_)
  obtain ⟨rfl, rfl, rfl⟩ := hp5
  refine aw_pop dJ0_checkIndex_df160_8 rfl ?_
  exact aw_vret dJ0_checkIndex_df160_9 rfl (Nat.zero_le _) (Nat.zero_le _) (Nat.zero_le _) (Nat.zero_le _) ⟨rfl, rfl, rfl⟩
theorem kJ1_charAt {a v : Nat} (h : aH) (n : Nat) (i : Int32) (hi : inb i 17) : AMX a v mJ1_charAt_3b067 3 [.retAddr v, .int i] h n 0 0 0 0 (isV (.int (footC i)) h n) noX := by
  have h0 : ¬ i < 0 := by rw [Int32.lt_iff_toInt_lt]; show ¬ i.toInt < 0; omega
  have h1 : i < 17 := by rw [Int32.lt_iff_toInt_lt]; show i.toInt < 17; omega
  refine aw_ofX (by decide +kernel) rfl (Nat.le_of_ble_eq_true rfl) ?_
  refine aw_iload_n dJ1_charAt_3b067_0 rfl ?_
  refine aw_aload_nA dJ1_charAt_3b067_1 rfl ?_
  refine aw_lenT dJ1_charAt_3b067_2 ?_
  refine aw_callST (av := [.int i, .int 17]) (st := []) dJ1_charAt_3b067_3 csJ1_9 rfl (kJ0_checkIndex h n i 17 h0 h1) rfl (Nat.le_of_ble_eq_true rfl) (by decide) (by decide) (by decide) (by decide) (fun r3 h3 n3 hp3 => ?_)
  obtain ⟨rfl, rfl, rfl⟩ := hp3
  refine aw_aload_nA dJ1_charAt_3b067_6 rfl ?_
  refine aw_iload_n dJ1_charAt_3b067_7 rfl ?_
  refine aw_baldT dJ1_charAt_3b067_8 (vp_in_iff.mpr hi) ?_
  refine aw_sipush (v := 255) dJ1_charAt_3b067_9 (by decide) ?_
  refine aw_iand dJ1_charAt_3b067_12 ?_
  refine aw_i2c dJ1_charAt_3b067_13 ?_
  rw [(footC_ok hi).1]
  exact aw_zret dJ1_charAt_3b067_14 rfl (footC_ok hi).2 (Nat.zero_le _) (Nat.zero_le _) (Nat.zero_le _) (Nat.zero_le _) ⟨rfl, rfl, rfl⟩
theorem kJ0_charAt {a v : Nat} (h : aH) (n : Nat) (i : Int32) (hi : inb i 17) : AMX a v mJ0_charAt_5068e 4 [.retAddr a, .int i] h n 0 0 0 0 (isV (.int (footC i)) h n) noX := by
  refine aw_ofX (by decide +kernel) rfl (Nat.le_of_ble_eq_true rfl) ?_
  refine aw_aload_nA dJ0_charAt_5068e_0 rfl ?_
  refine aw_callT (av := []) (st := []) dJ0_charAt_5068e_1 ctJ0_492 rfl (kJ0_isLatin1 h n) rfl (Nat.le_of_ble_eq_true rfl) (by decide) (by decide) (by decide) (by decide) (fun r1 h1 n1 hp1 => ?_)
  obtain ⟨rfl, rfl, rfl⟩ := hp1
  refine aw_if_eq (tgt := 16) dJ0_charAt_5068e_4 (by decide) (fun c => absurd c (by decide)) (fun _ => ?_)
  refine aw_aload_nA dJ0_charAt_5068e_7 rfl ?_
  refine aw_valT dJ0_charAt_5068e_8 tw1835 ?_
  refine aw_iload_n dJ0_charAt_5068e_11 rfl ?_
  refine aw_callST (av := [.retAddr v, .int i]) (st := []) dJ0_charAt_5068e_12 csJ0_495 rfl (kJ1_charAt h n i hi) rfl (Nat.le_of_ble_eq_true rfl) (by decide) (by decide) (by decide) (by decide) (fun r2 h2 n2 hp2 => ?_)
  obtain ⟨rfl, rfl, rfl⟩ := hp2
  exact aw_zret dJ0_charAt_5068e_15 rfl (footC_ok hi).2 (Nat.zero_le _) (Nat.zero_le _) (Nat.zero_le _) (Nat.zero_le _) ⟨rfl, rfl, rfl⟩
