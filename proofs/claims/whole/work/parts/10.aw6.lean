/-- what 'new' asks: class number ci, its fields' first values -/
def newOK (own : String) (idx ci N : Nat) (fs : List Value) : Prop := ∃ (C : String) (T : u_T) (ty0 : Nat → FieldType), vwCl[ci]? = some (C, T, N) ∧ (∀ w ∈ u_ws C T N, w ∈ tb) ∧ (∀ k, k < N → parseFieldDescriptor (T k).2.2.1 = some (ty0 k)) ∧ Cond.classLink own idx C ∈ tb ∧ Cond.instantiable C N ∈ tb ∧ Cond.initialized C ∈ tb ∧ (∀ j, j < N → defaultValue (ty0 j) = vp_V fs j) ∧ (∀ v ∈ fs, v = .null ∨ (∃ x, v = .int x) ∨ ∃ x, v = .long x)
theorem rs.plain {ws : va_W} : ∀ {fs : List Value}, (∀ v ∈ fs, v = .null ∨ (∃ x, v = .int x) ∨ ∃ x, v = .long x) → rs ws fs fs
  | [], _ => rfl
  | v :: l, h => by
    refine ⟨v, l, rfl, ?_, rs.plain (fun w hw => h w (List.mem_cons_of_mem _ hw))⟩
    rcases h v List.mem_cons_self with rfl | ⟨x, rfl⟩ | ⟨x, rfl⟩ <;> rfl
section AWR
variable {X : State → (Nat → Prop) → Prop} {M : aM} {R : Room} {gc gs k j pc n : Nat} {Po : Option Value → aH → Nat → Prop} {PX : String → aH → Nat → Prop} {lv : List (Nat × Value)} {st : List Value} {h : aH} {idx : Nat}
theorem aw_mmin {x y : Int32} (hd : decode M.2.1 pc = .ok (.invokestatic idx, 3)) (w1 : Cond.methodLink M.1.cls idx Lib.Math.min.name ∈ tb) (w2 : Cond.static Lib.Math.min.name ∈ tb) (w3 : Cond.initialized "java/lang/Math" ∈ tb) (w4 : Cond.code Lib.Math.min.name Lib.Math.min.code 2 (some .int) ∈ tb) (hfr : 1 ≤ R.frames) (hlo : (st.map Value.category).sum + 13 ≤ R.locals) (hk : k ≤ R.cells) (hj : j ≤ R.slots) (kk : AW X M R gc gs Po PX k j (pc + 3) lv (.int (if y < x then y else x) :: st) h n) : AW X M R gc gs Po PX k j pc lv (.int y :: .int x :: st) h n := by
  intro p l e s m args below meth c A D ws0 C hX H locs ws tys ls lv' st' hK hP hD hS hR hn he hl hls hst
  obtain ⟨_, st1, rfl, rfl, hst⟩ := hst
  obtain ⟨_, st1, rfl, rfl, hst⟩ := hst
  exact va_mmin C.1 C.2.1 (C.2.2.1.trans hls.1.symm) C.2.2.2.1 (C.2.2.2.2.1 _ w1) (C.2.2.2.2.1 _ w2) (C.2.2.2.2.1 _ w3) (C.2.2.2.2.1 _ w4) hfr (by rw [show (st1.map fun v => v.category) = st1.map Value.category from rfl, hst.cat]; exact hlo) hk hj hd (kk p l e s m args below meth c A D ws0 C hX H locs ws tys ls lv' _ hK hP hD hS hR hn he hl hls ⟨_, _, rfl, rfl, hst⟩)
theorem aw_mmax {x y : Int32} (hd : decode M.2.1 pc = .ok (.invokestatic idx, 3)) (w1 : Cond.methodLink M.1.cls idx Lib.Math.max.name ∈ tb) (w2 : Cond.static Lib.Math.max.name ∈ tb) (w3 : Cond.initialized "java/lang/Math" ∈ tb) (w4 : Cond.code Lib.Math.max.name Lib.Math.max.code 2 (some .int) ∈ tb) (hfr : 1 ≤ R.frames) (hlo : (st.map Value.category).sum + 13 ≤ R.locals) (hk : k ≤ R.cells) (hj : j ≤ R.slots) (kk : AW X M R gc gs Po PX k j (pc + 3) lv (.int (if x < y then y else x) :: st) h n) : AW X M R gc gs Po PX k j pc lv (.int y :: .int x :: st) h n := by
  intro p l e s m args below meth c A D ws0 C hX H locs ws tys ls lv' st' hK hP hD hS hR hn he hl hls hst
  obtain ⟨_, st1, rfl, rfl, hst⟩ := hst
  obtain ⟨_, st1, rfl, rfl, hst⟩ := hst
  exact va_mmax C.1 C.2.1 (C.2.2.1.trans hls.1.symm) C.2.2.2.1 (C.2.2.2.2.1 _ w1) (C.2.2.2.2.1 _ w2) (C.2.2.2.2.1 _ w3) (C.2.2.2.2.1 _ w4) hfr (by rw [show (st1.map fun v => v.category) = st1.map Value.category from rfl, hst.cat]; exact hlo) hk hj hd (kk p l e s m args below meth c A D ws0 C hX H locs ws tys ls lv' _ hK hP hD hS hR hn he hl hls ⟨_, _, rfl, rfl, hst⟩)
theorem aw_copyb {q0 q1 n0 n1 : Nat} {f g : Nat → Int32} {sp dp nn : Int32} (hd : decode M.2.1 pc = .ok (.invokestatic idx, 3)) (w1 : Cond.methodLink M.1.cls idx arraycopyName ∈ tb) (w2 : Cond.native arraycopyName ∈ tb) (w3 : Cond.static arraycopyName ∈ tb) (w4 : Cond.initialized "java/lang/System" ∈ tb) (ho0 : h q0 = some (.inl (.byte, n0, .inl f))) (ho1 : h q1 = some (.inl (.byte, n1, .inl g))) (h1 : ¬ sp < 0) (h2 : ¬ dp < 0) (h3 : ¬ nn < 0) (h4 : sp.toNatClampNeg + nn.toNatClampNeg ≤ n0) (h5 : dp.toNatClampNeg + nn.toNatClampNeg ≤ n1) (hfit : ∀ i, i < nn.toNatClampNeg → fits .byte (.int (f (sp.toNatClampNeg + i))) = true) (hfr : 1 ≤ R.frames) (hlo : (st.map Value.category).sum + (nativeFrameWords "java/lang/System" "arraycopy" 5 + 11) ≤ R.locals) (kk : AW X M R gc gs Po PX k j (pc + 3) lv st (va_up h q1 (some (.inl (.byte, n1, .inl (va_cpy f g sp.toNatClampNeg dp.toNatClampNeg nn.toNatClampNeg))))) n) : AW X M R gc gs Po PX k j pc lv (.int nn :: .int dp :: .ref q1 :: .int sp :: .ref q0 :: st) h n := by
  intro p l e s m args below meth c A D ws0 C hX H locs ws tys ls lv' st' hK hP hD hS hR hn he hl hls hst
  obtain ⟨_, st1, rfl, rfl, hst⟩ := hst
  obtain ⟨_, st1, rfl, rfl, hst⟩ := hst
  obtain ⟨_, st1, rfl, ⟨a1, e1, i1, rfl⟩, hst⟩ := hst
  obtain ⟨_, st1, rfl, rfl, hst⟩ := hst
  obtain ⟨_, st1, rfl, ⟨a0, e0, i0, rfl⟩, hst⟩ := hst
  obtain ⟨b1, f1, y1, z1⟩ := hR q1 _ ho1
  cases i1.symm.trans y1
  obtain ⟨b0, f0, y0, z0⟩ := hR q0 _ ho0
  cases i0.symm.trans y0
  match e0, z0, y0, e1, z1, y1 with
  | .inl (c0, m0, .inl f2), z0, y0, .inl (c1, m1, .inl g2), z1, y1 =>
    obtain ⟨⟨t0, ht0⟩, z2, z3⟩ := z0
    obtain ⟨⟨t1, ht1⟩, z4, z5⟩ := z1
    dsimp only at z2 z3 z4 z5
    subst z2; subst z3; subst z4; subst z5
    refine va_copyi C.1 C.2.1 (C.2.2.1.trans hls.1.symm) C.2.2.2.1 (C.2.2.2.2.1 _ w1) (C.2.2.2.2.1 _ w2) (C.2.2.2.2.1 _ w3) (C.2.2.2.2.1 _ w4) hK hP hD hS q0 q1 t0 t1 y0 y1 ht0 ht1 rfl h1 h2 h3 h4 h5 hfit hfr (by rw [show (st1.map fun v => v.category) = st1.map Value.category from rfl, hst.cat]; exact hlo) hd (fun H1 locs1 hP1 hD1 hS1 => ?_)
    have hx := ex.set (e := Sum.inl (c1, n1, .inl (va_cpy f g sp.toNatClampNeg dp.toNatClampNeg nn.toNatClampNeg))) y1
    exact kk p l e s m args below meth c A D ws0 C hX H1 locs1 _ tys ls lv' _ hK hP1 hD1 hS1 (hR.set y1 ⟨⟨t1, ht1⟩, rfl, rfl⟩) (by rw [List.length_set]; exact hn) (he.tr hx) (hl.up hx) hls (hst.up hx)
theorem aw_new {ci N : Nat} {fs : List Value} (hd : decode M.2.1 pc = .ok (.new idx, 3)) (hw : newOK M.1.cls idx ci N fs) (hc : k + 1 ≤ R.cells) (hs : j + N ≤ R.slots) (kk : AW X M R gc gs Po PX (k + 1) (j + N) (pc + 3) lv (.ref n :: st) (va_up h n (some (.inr (ci, fs)))) (n + 1)) : AW X M R gc gs Po PX k j pc lv st h n := by
  intro p l e s m args below meth c A D ws0 C hX H locs ws tys ls lv' st' hK hP hD hS hR hn he hl hls hst
  obtain ⟨Cn, T, ty0, w1, w2, w3, w4, w5, w6, w7, w8⟩ := hw
  refine va_new C.1 C.2.1 C.2.2.2.2.1 w2 ty0 w3 C.2.2.2.1 (C.2.2.2.2.1 _ w4) (C.2.2.2.2.1 _ w5) (C.2.2.2.2.1 _ w6) hK hP hD hS C.2.2.2.2.2.2.2.2.2.1 w1 w7 hc hs hd (fun q H1 hP1 hD1 hS1 => ?_)
  have hr := hR.push (q := q) (e := Sum.inr (ci, fs)) (o := Sum.inr (ci, fs)) hn [] ⟨rfl, rs.plain w8⟩
  rw [List.append_nil] at hr
  exact kk p l e s m args below meth c A D ws0 C hX H1 locs _ tys ls lv' _ hK hP1 hD1 hS1 hr (by simp [hn]) (he.tr ex.app) (hl.up ex.app) hls ⟨_, _, rfl, ⟨q, _, by rw [← hn]; simp; rfl, rfl⟩, hst.up ex.app⟩
theorem aw_newaI {z : Int32} {N : Nat} (hd : decode M.2.1 pc = .ok (.newarray .int, 2)) (hw : Cond.arrayClass .int ∈ tb) (hz : ¬ z < 0) (hN : z.toNatClampNeg = N) (hN2 : N ≤ 1000000) (hc : k + 1 ≤ R.cells) (hs : j + N ≤ R.slots) (kk : AW X M R gc gs Po PX (k + 1) (j + N) (pc + 2) lv (.ref n :: st) (va_up h n (some (.inl (.int, N, .inl (fun _ => 0))))) (n + 1)) : AW X M R gc gs Po PX k j pc lv (.int z :: st) h n := by
  intro p l e s m args below meth c A D ws0 C hX H locs ws tys ls lv' st' hK hP hD hS hR hn he hl hls hst
  obtain ⟨_, st1, rfl, rfl, hst⟩ := hst
  refine va_newa (atype := .int) (ty := .int) (a0 := (N, .inl (fun _ => 0))) C.1 C.2.1 (C.2.2.2.2.1 _ hw) rfl hK hP hD hS C.2.2.2.2.2.2.2.2.2.1 (fun cA => rfl) hz hN (by simp only [componentBytes]; omega) hc hs hd (fun q cA H1 hK1 hP1 hD1 hS1 => ?_)
  have hr := hR.push (q := q) (e := Sum.inl (cA, N, .inl (fun _ => 0))) (o := Sum.inl (.int, N, .inl (fun _ => 0))) hn [(cA, .int)] ⟨⟨tys.length, by simp⟩, rfl, rfl⟩
  exact kk p l e s m args below meth c A D ws0 C hX H1 locs _ _ ls lv' _ hK1 hP1 hD1 hS1 hr (by simp [hn]) (he.tr ex.app) (hl.up ex.app) hls ⟨_, _, rfl, ⟨q, _, by rw [← hn]; simp; rfl, rfl⟩, hst.up ex.app⟩
theorem aw_newaB {z : Int32} {N : Nat} (hd : decode M.2.1 pc = .ok (.newarray .byte, 2)) (hw : Cond.arrayClass .byte ∈ tb) (hz : ¬ z < 0) (hN : z.toNatClampNeg = N) (hN2 : N ≤ 1000000) (hc : k + 1 ≤ R.cells) (hs : j + N ≤ R.slots) (kk : AW X M R gc gs Po PX (k + 1) (j + N) (pc + 2) lv (.ref n :: st) (va_up h n (some (.inl (.byte, N, .inl (fun _ => 0))))) (n + 1)) : AW X M R gc gs Po PX k j pc lv (.int z :: st) h n := by
  intro p l e s m args below meth c A D ws0 C hX H locs ws tys ls lv' st' hK hP hD hS hR hn he hl hls hst
  obtain ⟨_, st1, rfl, rfl, hst⟩ := hst
  refine va_newa (atype := .byte) (ty := .byte) (a0 := (N, .inl (fun _ => 0))) C.1 C.2.1 (C.2.2.2.2.1 _ hw) rfl hK hP hD hS C.2.2.2.2.2.2.2.2.2.1 (fun cA => rfl) hz hN (by simp only [componentBytes]; omega) hc hs hd (fun q cA H1 hK1 hP1 hD1 hS1 => ?_)
  have hr := hR.push (q := q) (e := Sum.inl (cA, N, .inl (fun _ => 0))) (o := Sum.inl (.byte, N, .inl (fun _ => 0))) hn [(cA, .byte)] ⟨⟨tys.length, by simp⟩, rfl, rfl⟩
  exact kk p l e s m args below meth c A D ws0 C hX H1 locs _ _ ls lv' _ hK1 hP1 hD1 hS1 hr (by simp [hn]) (he.tr ex.app) (hl.up ex.app) hls ⟨_, _, rfl, ⟨q, _, by rw [← hn]; simp; rfl, rfl⟩, hst.up ex.app⟩
theorem aw_newaL {z : Int32} {N : Nat} (hd : decode M.2.1 pc = .ok (.newarray .long, 2)) (hw : Cond.arrayClass .long ∈ tb) (hz : ¬ z < 0) (hN : z.toNatClampNeg = N) (hN2 : N ≤ 1000000) (hc : k + 1 ≤ R.cells) (hs : j + N ≤ R.slots) (kk : AW X M R gc gs Po PX (k + 1) (j + N) (pc + 2) lv (.ref n :: st) (va_up h n (some (.inl (.long, N, .inr (.inl (fun _ => 0)))))) (n + 1)) : AW X M R gc gs Po PX k j pc lv (.int z :: st) h n := by
  intro p l e s m args below meth c A D ws0 C hX H locs ws tys ls lv' st' hK hP hD hS hR hn he hl hls hst
  obtain ⟨_, st1, rfl, rfl, hst⟩ := hst
  refine va_newa (atype := .long) (ty := .long) (a0 := (N, .inr (.inl (fun _ => 0)))) C.1 C.2.1 (C.2.2.2.2.1 _ hw) rfl hK hP hD hS C.2.2.2.2.2.2.2.2.2.1 (fun cA => rfl) hz hN (by simp only [componentBytes]; omega) hc hs hd (fun q cA H1 hK1 hP1 hD1 hS1 => ?_)
  have hr := hR.push (q := q) (e := Sum.inl (cA, N, .inr (.inl (fun _ => 0)))) (o := Sum.inl (.long, N, .inr (.inl (fun _ => 0)))) hn [(cA, .long)] ⟨⟨tys.length, by simp⟩, rfl, rfl⟩
  exact kk p l e s m args below meth c A D ws0 C hX H1 locs _ _ ls lv' _ hK1 hP1 hD1 hS1 hr (by simp [hn]) (he.tr ex.app) (hl.up ex.app) hls ⟨_, _, rfl, ⟨q, _, by rw [← hn]; simp; rfl, rfl⟩, hst.up ex.app⟩
theorem aw_newq {z : Int32} {N : Nat} {Cn : String} (hd : decode M.2.1 pc = .ok (.anewarray idx, 3)) (hw : Cond.classLink M.1.cls idx Cn ∈ tb) (hw2 : Cond.arrayOver (.object Cn) ∈ lw_tbl) (hz : ¬ z < 0) (hN : z.toNatClampNeg = N) (hN2 : N ≤ 1000000) (hc : k + 1 ≤ R.cells) (hs : j + N ≤ R.slots) (kk : AW X M R gc gs Po PX (k + 1) (j + N) (pc + 3) lv (.ref n :: st) (va_up h n (some (.inl (.object Cn, N, .inr (.inr (.inr (.inr (fun _ => none)))))))) (n + 1)) : AW X M R gc gs Po PX k j pc lv (.int z :: st) h n := by
  intro p l e s m args below meth c A D ws0 C hX H locs ws tys ls lv' st' hK hP hD hS hR hn he hl hls hst
  obtain ⟨_, st1, rfl, rfl, hst⟩ := hst
  refine va_newq C.1 C.2.1 C.2.2.2.1 (C.2.2.2.2.1 _ hw) (C.2.2.2.2.2.2.2.2.2.2.2.2.2.1 _ hw2) hK hP hD hS C.2.2.2.2.2.2.2.2.2.1 hz hN (by omega) hc hs hd (fun q cA H1 hK1 hP1 hD1 hS1 => ?_)
  have hr := hR.push (q := q) (e := Sum.inl (cA, N, .inr (.inr (.inr (.inr (fun _ => none)))))) (o := Sum.inl (.object Cn, N, .inr (.inr (.inr (.inr (fun _ => none)))))) hn [(cA, .object Cn)] ⟨⟨tys.length, by simp⟩, rfl, fun _ => rfl⟩
  exact kk p l e s m args below meth c A D ws0 C hX H1 locs _ _ ls lv' _ hK1 hP1 hD1 hS1 hr (by simp [hn]) (he.tr ex.app) (hl.up ex.app) hls ⟨_, _, rfl, ⟨q, _, by rw [← hn]; simp; rfl, rfl⟩, hst.up ex.app⟩
theorem aw_aast {q v len ci : Nat} {Cn Cv : String} {fs : List Value} {f : Nat → Option Nat} {i : Int32} (hd : decode M.2.1 pc = .ok (.aastore, 1)) (ho : h q = some (.inl (.object Cn, len, .inr (.inr (.inr (.inr f)))))) (hov : h v = some (.inr (ci, fs))) (hc : ∃ T N, vwCl[ci]? = some (Cv, T, N)) (hcast : Cv = Cn ∨ Cond.castable Cv Cn ∈ lw_tbl) (hi : vp_in i len) (kk : AW X M R gc gs Po PX k j (pc + 1) lv st (va_up h q (some (.inl (.object Cn, len, .inr (.inr (.inr (.inr (va_up f i.toNatClampNeg (some v))))))))) n) : AW X M R gc gs Po PX k j pc lv (.ref v :: .int i :: .ref q :: st) h n := by
  intro p l e s m args below meth c A D ws0 C hX H locs ws tys ls lv' st' hK hP hD hS hR hn he hl hls hst
  obtain ⟨_, st1, rfl, ⟨av, ev, iv, rfl⟩, hst⟩ := hst
  obtain ⟨_, st1, rfl, rfl, hst⟩ := hst
  obtain ⟨_, st1, rfl, ⟨a, e1, h2, rfl⟩, hst⟩ := hst
  obtain ⟨a2, e2, h3, h4⟩ := hR q _ ho
  cases h2.symm.trans h3
  obtain ⟨a4, e4, h5, h6⟩ := hR v _ hov
  cases iv.symm.trans h5
  obtain ⟨T, N, hc⟩ := hc
  match e1, h4, h3, ev, h6, h5 with
  | .inl (cA, len2, .inr (.inr (.inr (.inr g)))), h4, h3, .inr (ci2, fs2), h6, h5 =>
    obtain ⟨⟨t0, ht⟩, h7, h8⟩ := h4
    obtain ⟨rfl, -⟩ := h6
    dsimp only at h7
    subst h7
    have hrc := va_recv hK hP hc h5
    dsimp only at hrc
    have hasg : ∀ comp c0 : ClassId, s.vm.findClass Cn = some comp → s.vm.findClass Cv = some c0 → s.vm.assignable c0 comp = true := by
      intro comp c0 z1 z2
      rcases hcast with hcast | hcast
      · rw [hcast, z1] at z2; cases z2; exact Vm.assignable_self _ _
      · obtain ⟨x1, x2, y1, y2, y3⟩ := C.2.2.2.2.2.2.2.2.2.2.2.2.2.2.1 _ _ hcast
        rw [z1] at y2; rw [z2] at y1; cases y1; cases y2; exact y3
    refine vb_astq (E := Cn) (C := Cv) C.1 C.2.1 hK hP hD hS q t0 h3 ht hrc hasg hi hd (fun H1 locs1 hP1 hD1 hS1 => ?_)
    have hx := ex.set (e := Sum.inl (cA, len, .inr (.inr (.inr (.inr (va_up g i.toNatClampNeg (some av))))))) h3
    have hro : rob ws tys (.inl (.object Cn, len, .inr (.inr (.inr (.inr (va_up f i.toNatClampNeg (some v))))))) (.inl (cA, len, .inr (.inr (.inr (.inr (va_up g i.toNatClampNeg (some av))))))) := by
      refine ⟨⟨t0, ht⟩, rfl, fun z => ?_⟩
      by_cases hz : z = i.toNatClampNeg
      · subst hz; rw [va_up_self, va_up_self]; exact ⟨av, _, iv, rfl⟩
      · rw [va_up_ne _ _ hz, va_up_ne _ _ hz]; exact h8 z
    exact kk p l e s m args below meth c A D ws0 C hX H1 locs1 _ tys ls lv' _ hK hP1 hD1 hS1 (hR.set h3 hro) (by rw [List.length_set]; exact hn) (he.tr hx) (hl.up hx) hls (hst.up hx)
theorem aw_sld {b L : Nat} {xs : Nat → Int32} {i : Int32} (hd : decode M.2.1 pc = .ok (.iaload, 1)) (hsx : ∀ s A, X s A → va_X b L xs s s.heap ∧ b < s.heap.size ∧ ¬ A b) (hi : vp_in i L) (kk : AW X M R gc gs Po PX k j (pc + 1) lv (.int (xs i.toNatClampNeg) :: st) h n) : AW X M R gc gs Po PX k j pc lv (.int i :: .retAddr b :: st) h n := by
  intro p l e s m args below meth c A D ws0 C hX H locs ws tys ls lv' st' hK hP hD hS hR hn he hl hls hst
  obtain ⟨_, st1, rfl, rfl, hst⟩ := hst
  obtain ⟨_, st1, rfl, rfl, hst⟩ := hst
  obtain ⟨x1, x2, x3⟩ := hsx s A hX
  exact va_sld C.1 C.2.1 x1 x2 x3 hS hi hd (kk p l e s m args below meth c A D ws0 C hX H locs ws tys ls lv' _ hK hP hD hS hR hn he hl hls ⟨_, _, rfl, rfl, hst⟩)
theorem aw_slen {b L : Nat} {xs : Nat → Int32} (hd : decode M.2.1 pc = .ok (.arraylength, 1)) (hsx : ∀ s A, X s A → va_X b L xs s s.heap ∧ b < s.heap.size ∧ ¬ A b) (kk : AW X M R gc gs Po PX k j (pc + 1) lv (.int (Int32.ofNat L) :: st) h n) : AW X M R gc gs Po PX k j pc lv (.retAddr b :: st) h n := by
  intro p l e s m args below meth c A D ws0 C hX H locs ws tys ls lv' st' hK hP hD hS hR hn he hl hls hst
  obtain ⟨_, st1, rfl, rfl, hst⟩ := hst
  obtain ⟨x1, x2, x3⟩ := hsx s A hX
  exact va_slen C.1 C.2.1 x1 x2 x3 hS hd (kk p l e s m args below meth c A D ws0 C hX H locs ws tys ls lv' _ hK hP hD hS hR hn he hl hls ⟨_, _, rfl, rfl, hst⟩)
end AWR
