theorem rs.lgsl {ws : va_W} : ∀ {a b : List Value}, rs ws a b → (lg_sl b).length = (lg_sl a).length
  | [], _, r => by cases r; rfl
  | v :: l, _, ⟨v', l', e, r1, r2⟩ => by
    cases e
    have h := rs.lgsl r2
    unfold lg_sl at h ⊢
    simp only [List.flatMap_cons, List.length_append, r1.cat, h]
    split <;> rfl
theorem wsM_good {M : aM} (h : (if M.2.2.2.2 = [] then Cond.code M.1 M.2.1 M.2.2.1 M.2.2.2.1 else Cond.codeWith M.1 M.2.1 M.2.2.1 M.2.2.2.1 M.2.2.2.2) ∈ tb) : GoodIn tb (wsM M) := by
  intro w hw
  rcases List.mem_cons.mp hw with rfl | hw
  · exact ⟨h, tb_good h⟩
  · exact ⟨hw, tb_good hw⟩
theorem gro_of {p : Program} {l : Launch} {e : Env} {R : Room} {s : State} {m : MethodId} {args : Array Value} {below : List Frame} {meth : Method} {c : Code} {T : State} {locs : List Loc} {k j rc rs : Nat} {H : Heap} (Y : Stand p l e R s m args below meth c T locs k j) (hT : T.heap = H) (hk : k ≤ rc) (hj : j ≤ rs) : gro s.heap H rc rs := by
  subst hT
  obtain ⟨-, -, h3, -, h5, h6⟩ := Y.same
  refine ⟨Nat.le_trans h3 (by omega), fun a c hc => ?_, Nat.le_trans h5 hj⟩
  obtain ⟨c', e1, -, e3, -⟩ := h6 a c hc
  exact ⟨c', e1, e3⟩
section AWR
variable {X : State → (Nat → Prop) → Prop} {M : aM} {R : Room} {gc gs k j pc n : Nat} {Po : Option Value → aH → Nat → Prop} {PX : String → aH → Nat → Prop} {lv : List (Nat × Value)} {st : List Value} {h : aH}
theorem aw_iret {v : Int32} (hd : decode M.2.1 pc = .ok (.ireturn, 1)) (hr : M.2.2.2.1 = some .int) (hk : k ≤ R.cells) (hj : j ≤ R.slots) (hk2 : k ≤ gc) (hj2 : j ≤ gs) (hp : Po (some (.int v)) h n) : AW X M R gc gs Po PX k j pc lv [.int v] h n := by
  intro p l e s m args below meth c A D ws0 C hX H locs ws tys ls lv' st' hK hP hD hS hR hn he hl hls hst
  obtain ⟨_, st1, rfl, rfl, hst⟩ := hst
  cases hst
  intro T hT Y
  have gr := gro_of Y hT hk2 hj2
  exact (W.widen hk hj (vx_ret (W.iret C.1 C.2.1 (C.2.2.2.2.2.2.1.trans hr) (fun t ht hW => ⟨by rw [ht]; exact gr, ⟨some (.int v), some (.int v), h, ws, tys, rfl, by rw [hn]; exact hp, ⟨_, rfl, rfl⟩, he, hR, by rw [ht]; exact hP, va_K.moved hW.alike hK, hD⟩, hS.F ht⟩) hS.2.2 hd C.2.2.2.2.2.1))) T hT Y
theorem aw_zret {v : Int32} {ty : FieldType} (hd : decode M.2.1 pc = .ok (.ireturn, 1)) (hr : M.2.2.2.1 = some ty) (hnr : narrow ty (.int v) = .int v) (hk : k ≤ R.cells) (hj : j ≤ R.slots) (hk2 : k ≤ gc) (hj2 : j ≤ gs) (hp : Po (some (.int v)) h n) : AW X M R gc gs Po PX k j pc lv [.int v] h n := by
  intro p l e s m args below meth c A D ws0 C hX H locs ws tys ls lv' st' hK hP hD hS hR hn he hl hls hst
  obtain ⟨_, st1, rfl, rfl, hst⟩ := hst
  cases hst
  intro T hT Y
  have gr := gro_of Y hT hk2 hj2
  exact (W.widen hk hj (vx_ret (W.zret C.1 C.2.1 (C.2.2.2.2.2.2.1.trans hr) hnr (fun t ht hW => ⟨by rw [ht]; exact gr, ⟨some (.int v), some (.int v), h, ws, tys, rfl, by rw [hn]; exact hp, ⟨_, rfl, rfl⟩, he, hR, by rw [ht]; exact hP, va_K.moved hW.alike hK, hD⟩, hS.F ht⟩) hS.2.2 hd C.2.2.2.2.2.1))) T hT Y
theorem aw_lret {v : Int64} (hd : decode M.2.1 pc = .ok (.lreturn, 1)) (hr : M.2.2.2.1 = some .long) (hk : k ≤ R.cells) (hj : j ≤ R.slots) (hk2 : k ≤ gc) (hj2 : j ≤ gs) (hp : Po (some (.long v)) h n) : AW X M R gc gs Po PX k j pc lv [.long v] h n := by
  intro p l e s m args below meth c A D ws0 C hX H locs ws tys ls lv' st' hK hP hD hS hR hn he hl hls hst
  obtain ⟨_, st1, rfl, rfl, hst⟩ := hst
  cases hst
  intro T hT Y
  have gr := gro_of Y hT hk2 hj2
  exact (W.widen hk hj (vx_ret (W.lret C.1 C.2.1 (C.2.2.2.2.2.2.1.trans hr) (fun t ht hW => ⟨by rw [ht]; exact gr, ⟨some (.long v), some (.long v), h, ws, tys, rfl, by rw [hn]; exact hp, ⟨_, rfl, rfl⟩, he, hR, by rw [ht]; exact hP, va_K.moved hW.alike hK, hD⟩, hS.F ht⟩) hS.2.2 hd C.2.2.2.2.2.1))) T hT Y
theorem aw_vret  (hd : decode M.2.1 pc = .ok (.return_, 1)) (hr : M.2.2.2.1 = none) (hk : k ≤ R.cells) (hj : j ≤ R.slots) (hk2 : k ≤ gc) (hj2 : j ≤ gs) (hp : Po none h n) : AW X M R gc gs Po PX k j pc lv [] h n := by
  intro p l e s m args below meth c A D ws0 C hX H locs ws tys ls lv' st' hK hP hD hS hR hn he hl hls hst
  cases hst
  intro T hT Y
  have gr := gro_of Y hT hk2 hj2
  exact (W.widen hk hj (vx_ret (W.vret C.1 C.2.1 (C.2.2.2.2.2.2.1.trans hr) (fun t ht hW => ⟨by rw [ht]; exact gr, ⟨none, none, h, ws, tys, rfl, by rw [hn]; exact hp, rfl, he, hR, by rw [ht]; exact hP, va_K.moved hW.alike hK, hD⟩, hS.F ht⟩) hS.2.2 hd C.2.2.2.2.2.1))) T hT Y
end AWR
/-- a contract out of the walk of its body -/
theorem aw_of {M : aM} {d n mc ms gc gs : Nat} {av : List Value} {h : aH} {Po : Option Value → aH → Nat → Prop} {PX : String → aH → Nat → Prop} (hy : plainName M.1.cls = true) (ht : M.2.2.2.2 = []) (hlen : (lg_sl av).length ≤ M.2.2.1)
    (kk : AW (fun _ _ => True) M (rmD d mc ms) gc gs Po PX 0 0 0 (lv_args 0 av) [] h n) : AM M d av h n mc ms gc gs Po PX := by
  intro l D ws tys av' sz hl0 hR hn hav
  refine vx_ofW (cc := M.2.1) (maxL := M.2.2.1) (ret := M.2.2.2.1) (ws' := tb) hy (by unfold wsM; rw [if_pos ht]) ?_
  intro p e s m args below meth c s₁ B hml htab hv
  obtain ⟨rfl, hsz, hP, hK, hD0, hcx⟩ := hv
  subst hsz
  have hts := atoms_spec (ws := wsM M) B.pre
  have htl : c.exceptionTable.toList = tableOf M.2.2.2.2 := by
    rw [ht]
    cases hx : c.exceptionTable.toList with
    | nil => rfl
    | cons a l => exact (htab a (by rw [hx]; exact List.mem_cons_self)).elim
  rw [lg_entry_eq]
  exact kk p l e s m _ below meth c (va_A ws s.heap.size) D ws ⟨B.exec, B.bytes, hml, findClass_of_methodNamed B.named, fun w hw => hts w (List.mem_cons_of_mem _ hw), B.notSynchronized, B.returns, (name_of_methodNamed B.named B.method).1, htl, fun q h => Or.inr h, hl0, hcx⟩ trivial
    s.heap [] ws tys _ _ [] hK hP hD0.self va_S.rf hR hn ex.rf (rl.args 0 hav) (lv_entry av' (by rw [hav.lgsl]; exact hlen)) rfl
/-- .. of a body with a table -/
theorem aw_ofH {M : aM} {d n mc ms gc gs : Nat} {av : List Value} {h : aH} {Po : Option Value → aH → Nat → Prop} {PX : String → aH → Nat → Prop} (hy : plainName M.1.cls = true) (ht : ¬ M.2.2.2.2 = []) (hlen : (lg_sl av).length ≤ M.2.2.1)
    (kk : AW (fun _ _ => True) M (rmD d mc ms) gc gs Po PX 0 0 0 (lv_args 0 av) [] h n) : AM M d av h n mc ms gc gs Po PX := by
  intro l D ws tys av' sz hl0 hR hn hav
  refine vx_ofWH (cc := M.2.1) (maxL := M.2.2.1) (ret := M.2.2.2.1) (hh := M.2.2.2.2) (ws' := tb) hy (by unfold wsM; rw [if_neg ht]) ?_
  intro p e s m args below meth c s₁ B hml hv
  obtain ⟨rfl, hsz, hP, hK, hD0, hcx⟩ := hv
  subst hsz
  have hts := atoms_spec (ws := wsM M) B.pre
  have htl : c.exceptionTable.toList = tableOf M.2.2.2.2 := vx_table (x := M.1) (bytes := M.2.1) (maxL' := M.2.2.1) (ret' := M.2.2.2.1) B (hts _ (by unfold wsM; rw [if_neg ht]; exact List.mem_cons_self))
  rw [lg_entry_eq]
  exact kk p l e s m _ below meth c (va_A ws s.heap.size) D ws ⟨B.exec, B.bytes, hml, findClass_of_methodNamed B.named, fun w hw => hts w (List.mem_cons_of_mem _ hw), B.notSynchronized, B.returns, (name_of_methodNamed B.named B.method).1, htl, fun q h => Or.inr h, hl0, hcx⟩ trivial
    s.heap [] ws tys _ _ [] hK hP hD0.self va_S.rf hR hn ex.rf (rl.args 0 hav) (lv_entry av' (by rw [hav.lgsl]; exact hlen)) rfl
