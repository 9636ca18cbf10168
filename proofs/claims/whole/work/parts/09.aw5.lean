section AWR
variable {X : State → (Nat → Prop) → Prop} {M : aM} {R : Room} {gc gs k j pc n : Nat} {Po : Option Value → aH → Nat → Prop} {PX : String → aH → Nat → Prop} {lv : List (Nat × Value)} {st : List Value} {h : aH}
variable {M2 : aM} {Po2 : Option Value → aH → Nat → Prop} {PX2 : String → aH → Nat → Prop} {d2 mc2 ms2 gc2 gs2 idx na : Nat} {av st0 : List Value}
theorem aw_callV {q : Nat} (hd : decode M.2.1 pc = .ok (.invokevirtual idx, 3)) {ci : Nat} {fs : List Value} (ho : h q = some (.inr (ci, fs))) (hw : cOK M.1.cls idx M2 na ∧ Cond.instanceMethod M2.1 ∈ tb ∧ ∃ (Cn : String) (T : u_T) (N : Nat), vwCl[ci]? = some (Cn, T, N) ∧ Cond.selects Cn M2.1 M2.1 ∈ tb) (hs : st0 = av.reverse ++ .ref q :: st) (hc : AM M2 d2 (.ref q :: av) h n mc2 ms2 gc2 gs2 Po2 PX2) (hna : av.length = na) (hsum : (st.map Value.category).sum ≤ 8) (hfr : 2 * d2 + 1 ≤ R.frames) (hlo : 8 + (M2.2.2.1 + 11) + 60 * d2 ≤ R.locals) (hcl : k + mc2 ≤ R.cells) (hsl : j + ms2 ≤ R.slots) (kx : ∀ (E : String) (h2 : aH) (n2 : Nat), PX2 E h2 n2 → AWX X M R gc gs Po PX (k + mc2) (j + ms2) pc lv h2 n2 E) (kk : ∀ (r : Option Value) (h2 : aH) (n2 : Nat), Po2 r h2 n2 → AW X M R gc gs Po PX (k + gc2) (j + gs2) (pc + 3) lv (r.toList ++ st) h2 n2) : AW X M R gc gs Po PX k j pc lv st0 h n := by
  intro p l e s m args below meth c A D ws0 C hX H locs ws tys ls lv' st' hK hP hD hS hR hn he hl hls hst
  subst hs
  obtain ⟨b1, b2, rfl, hb1, _, rest', rfl, ⟨a, e1, hq1, rfl⟩, hst2⟩ := hst.split
  have hav1 : rs ws av b1.reverse := by have := hb1.rev; rwa [List.reverse_reverse] at this
  have hav : rs ws (.ref q :: av) (.ref a :: b1.reverse) := ⟨_, _, rfl, ⟨a, e1, hq1, rfl⟩, hav1⟩
  obtain ⟨⟨w1, w2, w3, w4, w5⟩, w6, Cn, T, N, w7, w8⟩ := hw
  have hcb : CallB R s args M.1.cls idx M2.1 M2.2.1 M2.2.2.1 M2.2.2.2.1 (wsM M2) (rmD d2 mc2 ms2) mc2 ms2 na := callB_of na C.2.2.2.2.1 (wsM_code w3 w4).1 (wsM_code w3 w4).2 rfl rfl (C.2.2.2.2.1 _ w2) (C.2.2.2.2.1 _ w1) w5 ⟨hfr, hlo⟩
  have hM := hc l D ws tys _ H.size C.2.2.2.2.2.2.2.2.2.2.1 hR hn hav
  have hpre := aw_pre (av' := .ref a :: b1.reverse) C hK hP hD hS
  refine aw_back kk kx C hX hD hS he hl hls hst2 (vx_runV (C := Cn) (As := b1.reverse) (nL := M.2.2.1) ⟨C.1, C.2.1, C.2.2.1, C.2.2.2.1, C.2.2.2.2.1⟩ hM ⟨hcb, C.2.2.2.2.1 _ w6, C.2.2.2.2.1 _ w8⟩ ⟨hpre.1, ?_, hpre.2⟩ rfl (by rw [List.length_reverse, hb1.len, List.length_reverse]; exact hna) hls.1 (by rw [List.reverse_reverse]) (lv_room (by rw [show (rest'.map fun v => v.category) = rest'.map Value.category from rfl, hst2.cat]; exact hsum)) hd ⟨hcl, hsl⟩)
  obtain ⟨a2, e2, h3, h4⟩ := hR q _ ho
  cases hq1.symm.trans h3
  match e1, h4, h3 with
  | .inr (ci2, fs2), h4, h3 =>
    obtain ⟨rfl, -⟩ := h4
    exact va_recv hK hP w7 h3
theorem aw_callS  (hd : decode M.2.1 pc = .ok (.invokestatic idx, 3))  (hw : cOK M.1.cls idx M2 na ∧ Cond.static M2.1 ∈ tb) (hs : st0 = av.reverse ++ st) (hc : AM M2 d2 av h n mc2 ms2 gc2 gs2 Po2 PX2) (hna : av.length = na) (hsum : (st.map Value.category).sum ≤ 8) (hfr : 2 * d2 + 1 ≤ R.frames) (hlo : 8 + (M2.2.2.1 + 11) + 60 * d2 ≤ R.locals) (hcl : k + mc2 ≤ R.cells) (hsl : j + ms2 ≤ R.slots) (kx : ∀ (E : String) (h2 : aH) (n2 : Nat), PX2 E h2 n2 → AWX X M R gc gs Po PX (k + mc2) (j + ms2) pc lv h2 n2 E) (kk : ∀ (r : Option Value) (h2 : aH) (n2 : Nat), Po2 r h2 n2 → AW X M R gc gs Po PX (k + gc2) (j + gs2) (pc + 3) lv (r.toList ++ st) h2 n2) : AW X M R gc gs Po PX k j pc lv st0 h n := by
  intro p l e s m args below meth c A D ws0 C hX H locs ws tys ls lv' st' hK hP hD hS hR hn he hl hls hst
  subst hs
  obtain ⟨b1, rest', rfl, hb1, hst2⟩ := hst.split
  have hav : rs ws av b1.reverse := by have := hb1.rev; rwa [List.reverse_reverse] at this
  obtain ⟨⟨w1, w2, w3, w4, w5⟩, w6⟩ := hw
  have hcb : CallB R s args M.1.cls idx M2.1 M2.2.1 M2.2.2.1 M2.2.2.2.1 (wsM M2) (rmD d2 mc2 ms2) mc2 ms2 na := callB_of na C.2.2.2.2.1 (wsM_code w3 w4).1 (wsM_code w3 w4).2 rfl rfl (C.2.2.2.2.1 _ w2) (C.2.2.2.2.1 _ w1) w5 ⟨hfr, hlo⟩
  have hM := hc l D ws tys _ H.size C.2.2.2.2.2.2.2.2.2.2.1 hR hn hav
  have hpre := aw_pre (av' := b1.reverse) C hK hP hD hS
  exact aw_back kk kx C hX hD hS he hl hls hst2 (vx_runS (As := b1.reverse) (nL := M.2.2.1) ⟨C.1, C.2.1, C.2.2.1, C.2.2.2.1, C.2.2.2.2.1⟩ hM ⟨hcb, C.2.2.2.2.1 _ w6⟩ hpre rfl (by rw [List.length_reverse, hb1.len, List.length_reverse]; exact hna) hls.1 (by rw [List.reverse_reverse]) (lv_room (by rw [show (rest'.map fun v => v.category) = rest'.map Value.category from rfl, hst2.cat]; exact hsum)) hd ⟨hcl, hsl⟩)
theorem aw_callI {q : Nat} (hd : decode M.2.1 pc = .ok (.invokespecial idx, 3))  (hw : cOK M.1.cls idx M2 na ∧ Cond.instanceMethod M2.1 ∈ tb ∧ M2.1.name = "<init>" ∧ M2.2.2.2.1 = none) (hs : st0 = av.reverse ++ .ref q :: st) (hc : AM M2 d2 (.ref q :: av) h n mc2 ms2 gc2 gs2 Po2 (fun _ _ _ => False)) (hna : av.length = na) (hsum : (st.map Value.category).sum ≤ 8) (hfr : 2 * d2 + 1 ≤ R.frames) (hlo : 8 + (M2.2.2.1 + 11) + 60 * d2 ≤ R.locals) (hcl : k + mc2 ≤ R.cells) (hsl : j + ms2 ≤ R.slots)  (kk : ∀ (r : Option Value) (h2 : aH) (n2 : Nat), Po2 r h2 n2 → AW X M R gc gs Po PX (k + gc2) (j + gs2) (pc + 3) lv (r.toList ++ st) h2 n2) : AW X M R gc gs Po PX k j pc lv st0 h n := by
  intro p l e s m args below meth c A D ws0 C hX H locs ws tys ls lv' st' hK hP hD hS hR hn he hl hls hst
  subst hs
  obtain ⟨b1, b2, rfl, hb1, _, rest', rfl, ⟨a, e1, hq1, rfl⟩, hst2⟩ := hst.split
  have hav1 : rs ws av b1.reverse := by have := hb1.rev; rwa [List.reverse_reverse] at this
  have hav : rs ws (.ref q :: av) (.ref a :: b1.reverse) := ⟨_, _, rfl, ⟨a, e1, hq1, rfl⟩, hav1⟩
  obtain ⟨⟨w1, w2, w3, w4, w5⟩, w6, w7, w8⟩ := hw
  have hcb : CallB R s args M.1.cls idx M2.1 M2.2.1 M2.2.2.1 M2.2.2.2.1 (wsM M2) (rmD d2 mc2 ms2) mc2 ms2 na := callB_of na C.2.2.2.2.1 (wsM_code w3 w4).1 (wsM_code w3 w4).2 rfl rfl (C.2.2.2.2.1 _ w2) (C.2.2.2.2.1 _ w1) w5 ⟨hfr, hlo⟩
  rw [w8] at hcb
  have hM := hc l D ws tys _ H.size C.2.2.2.2.2.2.2.2.2.2.1 hR hn hav
  have hpre := aw_pre (av' := .ref a :: b1.reverse) C hK hP hD hS
  exact aw_back (PX2 := fun _ _ _ => False) kk (fun _ _ _ hf => False.elim hf) C hX hD hS he hl hls hst2 (vx_of_run (va_runI (As := b1.reverse) (nL := M.2.2.1) ⟨C.1, C.2.1, C.2.2.1, C.2.2.2.1, C.2.2.2.2.1⟩ (met_of_vx (fun _ _ _ hx => by obtain ⟨⟨_, _, _, hf, -⟩, -⟩ := hx; exact hf) hM) ⟨hcb, w7, C.2.2.2.2.1 _ w6⟩ hpre rfl (by rw [List.length_reverse, hb1.len, List.length_reverse]; exact hna) hls.1 (by rw [List.reverse_reverse]) (lv_room (by rw [show (rest'.map fun v => v.category) = rest'.map Value.category from rfl, hst2.cat]; exact hsum)) hd ⟨hcl, hsl⟩))
theorem aw_callSN {host : String}  (hd : decode M.2.1 pc = .ok (.invokestatic idx, 3))  (hw : cnOK M.1.cls idx host M2 na ∧ Cond.static M2.1 ∈ tb) (hs : st0 = av.reverse ++ st) (hc : AM M2 d2 av h n mc2 ms2 gc2 gs2 Po2 (fun _ _ _ => False)) (hna : av.length = na) (hsum : (st.map Value.category).sum ≤ 8) (hfr : 2 * d2 + 1 ≤ R.frames) (hlo : 8 + (M2.2.2.1 + 11) + 60 * d2 ≤ R.locals) (hcl : k + mc2 ≤ R.cells) (hsl : j + ms2 ≤ R.slots)  (kk : ∀ (r : Option Value) (h2 : aH) (n2 : Nat), Po2 r h2 n2 → AW X M R gc gs Po PX (k + gc2) (j + gs2) (pc + 3) lv (r.toList ++ st) h2 n2) : AW X M R gc gs Po PX k j pc lv st0 h n := by
  intro p l e s m args below meth c A D ws0 C hX H locs ws tys ls lv' st' hK hP hD hS hR hn he hl hls hst
  subst hs
  obtain ⟨b1, rest', rfl, hb1, hst2⟩ := hst.split
  have hav : rs ws av b1.reverse := by have := hb1.rev; rwa [List.reverse_reverse] at this
  obtain ⟨⟨w1, w2, w3, w4, w5⟩, w6⟩ := hw
  have hcb := va_cnB (R := R) (args := args) (host := host) (mc := mc2) (ms := ms2) (rm := rmD d2 mc2 ms2) na C.2.2.2.2.1 (wsM_code w3 w4).1 (wsM_code w3 w4).2 rfl rfl (C.2.2.2.2.2.2.2.2.2.2.2.1 _ _ _ _ w1) (C.2.2.2.2.1 _ w2) w5 ⟨hfr, hlo⟩
  have hM := hc l D ws tys _ H.size C.2.2.2.2.2.2.2.2.2.2.1 hR hn hav
  have hpre := aw_pre (av' := b1.reverse) C hK hP hD hS
  exact aw_back (PX2 := fun _ _ _ => False) kk (fun _ _ _ hf => False.elim hf) C hX hD hS he hl hls hst2 (vx_of_run (va_runSN (As := b1.reverse) (nL := M.2.2.1) ⟨C.1, C.2.1, C.2.2.1, C.2.2.2.1, C.2.2.2.2.1⟩ (met_of_vx (fun _ _ _ hx => by obtain ⟨⟨_, _, _, hf, -⟩, -⟩ := hx; exact hf) hM) ⟨hcb, C.2.2.2.2.1 _ w6, trivial⟩ hpre rfl (by rw [List.length_reverse, hb1.len, List.length_reverse]; exact hna) hls.1 (by rw [List.reverse_reverse]) (lv_room (by rw [show (rest'.map fun v => v.category) = rest'.map Value.category from rfl, hst2.cat]; exact hsum)) hd ⟨hcl, hsl⟩))
theorem aw_callIN {host : String} {q : Nat} (hd : decode M.2.1 pc = .ok (.invokespecial idx, 3))  (hw : cnOK M.1.cls idx host M2 na ∧ Cond.instanceMethod M2.1 ∈ tb ∧ M2.1.name = "<init>" ∧ M2.2.2.2.1 = none) (hs : st0 = av.reverse ++ .ref q :: st) (hc : AM M2 d2 (.ref q :: av) h n mc2 ms2 gc2 gs2 Po2 (fun _ _ _ => False)) (hna : av.length = na) (hsum : (st.map Value.category).sum ≤ 8) (hfr : 2 * d2 + 1 ≤ R.frames) (hlo : 8 + (M2.2.2.1 + 11) + 60 * d2 ≤ R.locals) (hcl : k + mc2 ≤ R.cells) (hsl : j + ms2 ≤ R.slots)  (kk : ∀ (r : Option Value) (h2 : aH) (n2 : Nat), Po2 r h2 n2 → AW X M R gc gs Po PX (k + gc2) (j + gs2) (pc + 3) lv (r.toList ++ st) h2 n2) : AW X M R gc gs Po PX k j pc lv st0 h n := by
  intro p l e s m args below meth c A D ws0 C hX H locs ws tys ls lv' st' hK hP hD hS hR hn he hl hls hst
  subst hs
  obtain ⟨b1, b2, rfl, hb1, _, rest', rfl, ⟨a, e1, hq1, rfl⟩, hst2⟩ := hst.split
  have hav1 : rs ws av b1.reverse := by have := hb1.rev; rwa [List.reverse_reverse] at this
  have hav : rs ws (.ref q :: av) (.ref a :: b1.reverse) := ⟨_, _, rfl, ⟨a, e1, hq1, rfl⟩, hav1⟩
  obtain ⟨⟨w1, w2, w3, w4, w5⟩, w6, w7, w8⟩ := hw
  have hcb := va_cnB (R := R) (args := args) (host := host) (mc := mc2) (ms := ms2) (rm := rmD d2 mc2 ms2) na C.2.2.2.2.1 (wsM_code w3 w4).1 (wsM_code w3 w4).2 rfl rfl (C.2.2.2.2.2.2.2.2.2.2.2.1 _ _ _ _ w1) (C.2.2.2.2.1 _ w2) w5 ⟨hfr, hlo⟩
  rw [w8] at hcb
  have hM := hc l D ws tys _ H.size C.2.2.2.2.2.2.2.2.2.2.1 hR hn hav
  have hpre := aw_pre (av' := .ref a :: b1.reverse) C hK hP hD hS
  exact aw_back (PX2 := fun _ _ _ => False) kk (fun _ _ _ hf => False.elim hf) C hX hD hS he hl hls hst2 (vx_of_run (va_runIN (As := b1.reverse) (nL := M.2.2.1) ⟨C.1, C.2.1, C.2.2.1, C.2.2.2.1, C.2.2.2.2.1⟩ (met_of_vx (fun _ _ _ hx => by obtain ⟨⟨_, _, _, hf, -⟩, -⟩ := hx; exact hf) hM) ⟨hcb, w7, C.2.2.2.2.1 _ w6⟩ hpre rfl (by rw [List.length_reverse, hb1.len, List.length_reverse]; exact hna) hls.1 (by rw [List.reverse_reverse]) (lv_room (by rw [show (rest'.map fun v => v.category) = rest'.map Value.category from rfl, hst2.cat]; exact hsum)) hd ⟨hcl, hsl⟩))
theorem aw_obj {q : Nat} (hd : decode M.2.1 pc = .ok (.invokespecial idx, 3)) (w1 : Cond.methodLink M.1.cls idx Lib.objectInit ∈ tb) (w2 : Cond.instanceMethod Lib.objectInit ∈ tb) (w3 : Cond.code Lib.objectInit ⟨#[0xb1]⟩ 1 none ∈ tb) (hfr : 1 ≤ R.frames) (hlo : (st.map Value.category).sum + 12 ≤ R.locals) (kk : AW X M R gc gs Po PX k j (pc + 3) lv st h n) : AW X M R gc gs Po PX k j pc lv (.ref q :: st) h n := by
  intro p l e s m args below meth c A D ws0 C hX H locs ws tys ls lv' st' hK hP hD hS hR hn he hl hls hst
  obtain ⟨_, rest', rfl, ⟨a, e1, h2, rfl⟩, hst⟩ := hst
  exact W.objInit C.1 C.2.1 C.2.2.2.1 (C.2.2.2.2.1 _ w1) (C.2.2.2.2.1 _ w2) (C.2.2.2.2.1 _ w3) rfl (by rw [C.2.2.1]; exact hls.1) rfl hd hfr (by show 2 * 0 + (rest'.map fun v => v.category).sum + 12 ≤ _; rw [show (rest'.map fun v => v.category) = rest'.map Value.category from rfl, hst.cat]; omega) (kk p l e s m args below meth c A D ws0 C hX H locs ws tys ls lv' _ hK hP hD hS hR hn he hl hls hst)
end AWR
