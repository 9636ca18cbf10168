theorem aw_ca.use {a b : String} {args : Array Value} {s : State} (h : aw_ca a b s) : (Cond.castable a b).before args s = true := by
  obtain ⟨c, t, h1, h2, h3⟩ := h
  simp [Cond.before, Cond.holds, Cond.value, h1, h2, h3]
def exB (E : String) : List Cond := [.castable E E, .declares (Bundle.initS "java/lang/RuntimeException"), .declares (Bundle.initS "java/lang/Exception"), .declares (Bundle.initS "java/lang/Throwable")]
def exNames : List String := ["java/lang/RuntimeException", "java/lang/Exception"]
/-- what 'throw new E("text")' asks of the tables -/
def thOK (own : String) (ik is ic : Nat) (E : String) : Prop := Bundle.fit E = true ∧ Cond.classLink own ik E ∈ tb ∧ Cond.initialized E ∈ tb ∧ (∃ text, Cond.stringRef own is text ∈ lw_tbl) ∧ (∀ w ∈ (vx_atS own ic E exNames).filter goodWord, w ∈ tb) ∧ (∀ w ∈ (vx_atS own ic E exNames).filter (fun w => !goodWord w), w ∈ exB E) ∧ (∀ w ∈ exB E, w ∈ lw_tbl) ∧ (∀ w ∈ Cond.classLink own ik E :: Cond.initialized E :: vx_atS own ic E exNames, vx_ot w = true)
section AWR
variable {X : State → (Nat → Prop) → Prop} {M : aM} {R : Room} {gc gs k j pc n : Nat} {Po : Option Value → aH → Nat → Prop} {PX : String → aH → Nat → Prop} {lv : List (Nat × Value)} {st : List Value} {h : aH} {idx : Nat}
theorem aw_throw {ik is ic : Nat} {E : String} (d0 : decode M.2.1 pc = .ok (.new ik, 3)) (d3 : decode M.2.1 (pc + 3) = .ok (.dup, 1)) (d4 : decode M.2.1 (pc + 4) = .ok (.ldc is, 2)) (d6 : decode M.2.1 (pc + 6) = .ok (.invokespecial ic, 3)) (d9 : decode M.2.1 (pc + 9) = .ok (.athrow, 1)) (hw : thOK M.1.cls ik is ic E) (ht : M.2.2.2.2 = []) (hfr : 5 < R.frames) (hlo : (st.map Value.category).sum + 82 ≤ R.locals) (hk : k + 1 ≤ R.cells) (hj : j + 6 ≤ R.slots) (hp : PX E h n) : AW X M R gc gs Po PX k j pc lv st h n := by
  intro p l e s m args below meth c A D ws0 C hX H locs ws tys ls lv' st' hK hP hD hS hR hn he hl hls hst
  obtain ⟨v1, v2, v3, ⟨text, v4⟩, v5, v6, v7, v8⟩ := hw
  obtain ⟨c1, c2, c3, c4, c5, c6, c7, c8, c9, c10, c11, c12⟩ := C
  obtain ⟨x1, x2, x3, x4, x5, x6, x7, x9, x10⟩ := c12
  obtain ⟨sa, x8⟩ := x5 _ _ _ v4
  refine vx_throwS (names := exNames) (text := text) (sa := sa) c1 c2 c11 c4 v1 (by decide +kernel) (c5 _ v2) (c5 _ v3) x8 (vx_hat (fun w hw => c5 _ (v5 w hw)) v6 (vx_c (x4 _ _ (v7 _ (List.mem_of_getElem? (i := 0) rfl))).use (vx_c (va_Nw.use rfl (x2 _ (v7 _ (List.mem_of_getElem? (i := 1) rfl)))) (vx_c (va_Nw.use rfl (x2 _ (v7 _ (List.mem_of_getElem? (i := 2) rfl)))) (vx_c (va_Nw.use rfl (x2 _ (v7 _ (List.mem_of_getElem? (i := 3) rfl)))) vx_n))))) v8 x6 x7 hS (hls.1.trans c3.symm) d0 d3 d4 d6 d9 (fun x hx => by rw [c9, ht] at hx; cases hx) hfr ?_ hk hj c6 (fun t hal hsz hsame => ⟨⟨h, ws, tys, by rw [hn]; exact hp, he, hR, hP.kept (fun i q hi => hsame q.1 (hP i q hi).lt), va_K.moved hal hK, hD⟩, Nat.le_trans hS.1 hsz, fun q h1 h2 => by rw [hsame q (Nat.lt_of_lt_of_le h1 hS.1)]; exact hS.2.1 q h1 h2⟩) hS.2.2 hk hj
  show (st'.map fun v => v.category).sum + 82 ≤ _
  rw [show (st'.map fun v => v.category) = st'.map Value.category from rfl, hst.cat]
  exact hlo
end AWR
set_option maxRecDepth 20000 in
theorem thgX8_38 : ∀ w ∈ (vx_atS RX8 38 "java/lang/IllegalStateException" exNames).filter goodWord, w ∈ lw_tbl := by decide +kernel
theorem thbX8_38 : ∀ w ∈ exB "java/lang/IllegalStateException", w ∈ lw_tbl := by decide +kernel
theorem thnX8_38 : ∀ w ∈ (vx_atS RX8 38 "java/lang/IllegalStateException" exNames).filter (fun w => !goodWord w), w ∈ exB "java/lang/IllegalStateException" := by decide +kernel
theorem thX8_34_36_38 : thOK RX8 34 36 38 "java/lang/IllegalStateException" := ⟨by decide +kernel, tc4 (i := 19) (by decide +kernel) rfl, tc1 (i := 20) (by decide +kernel) rfl, ⟨"the file is refused", tl4 (List.mem_of_getElem? (i := 91) (by decide +kernel))⟩, fun w hw => List.mem_filter.mpr ⟨thgX8_38 w hw, (List.mem_filter.mp hw).2⟩, thnX8_38, thbX8_38, by decide +kernel⟩
theorem thX8_34_41_38 : thOK RX8 34 41 38 "java/lang/IllegalStateException" := ⟨by decide +kernel, tc4 (i := 19) (by decide +kernel) rfl, tc1 (i := 20) (by decide +kernel) rfl, ⟨"the file is cut short", tl4 (List.mem_of_getElem? (i := 61) (by decide +kernel))⟩, fun w hw => List.mem_filter.mpr ⟨thgX8_38 w hw, (List.mem_filter.mp hw).2⟩, thnX8_38, thbX8_38, by decide +kernel⟩
set_option maxRecDepth 20000 in
theorem thgX10_102 : ∀ w ∈ (vx_atS RX10 102 "java/lang/IllegalArgumentException" exNames).filter goodWord, w ∈ lw_tbl := by decide +kernel
theorem thbX10_102 : ∀ w ∈ exB "java/lang/IllegalArgumentException", w ∈ lw_tbl := by decide +kernel
theorem thnX10_102 : ∀ w ∈ (vx_atS RX10 102 "java/lang/IllegalArgumentException" exNames).filter (fun w => !goodWord w), w ∈ exB "java/lang/IllegalArgumentException" := by decide +kernel
theorem thX10_98_100_102 : thOK RX10 98 100 102 "java/lang/IllegalArgumentException" := ⟨by decide +kernel, tc5 (i := 224) (by decide +kernel) rfl, tc1 (i := 18) (by decide +kernel) rfl, ⟨"no such shelf", tl5 (List.mem_of_getElem? (i := 233) (by decide +kernel))⟩, fun w hw => List.mem_filter.mpr ⟨thgX10_102 w hw, (List.mem_filter.mp hw).2⟩, thnX10_102, thbX10_102, by decide +kernel⟩
theorem thX10_98_193_102 : thOK RX10 98 193 102 "java/lang/IllegalArgumentException" := ⟨by decide +kernel, tc5 (i := 224) (by decide +kernel) rfl, tc1 (i := 18) (by decide +kernel) rfl, ⟨"no such raster", tl6 (List.mem_of_getElem? (i := 36) (by decide +kernel))⟩, fun w hw => List.mem_filter.mpr ⟨thgX10_102 w hw, (List.mem_filter.mp hw).2⟩, thnX10_102, thbX10_102, by decide +kernel⟩
set_option maxRecDepth 20000 in
theorem thgX10_199 : ∀ w ∈ (vx_atS RX10 199 "java/lang/IndexOutOfBoundsException" exNames).filter goodWord, w ∈ lw_tbl := by decide +kernel
theorem thbX10_199 : ∀ w ∈ exB "java/lang/IndexOutOfBoundsException", w ∈ lw_tbl := by decide +kernel
theorem thnX10_199 : ∀ w ∈ (vx_atS RX10 199 "java/lang/IndexOutOfBoundsException" exNames).filter (fun w => !goodWord w), w ∈ exB "java/lang/IndexOutOfBoundsException" := by decide +kernel
theorem thX10_195_197_199 : thOK RX10 195 197 199 "java/lang/IndexOutOfBoundsException" := ⟨by decide +kernel, tc6 (i := 37) (by decide +kernel) rfl, tc1 (i := 26) (by decide +kernel) rfl, ⟨"no such pixel", tl6 (List.mem_of_getElem? (i := 46) (by decide +kernel))⟩, fun w hw => List.mem_filter.mpr ⟨thgX10_199 w hw, (List.mem_filter.mp hw).2⟩, thnX10_199, thbX10_199, by decide +kernel⟩
