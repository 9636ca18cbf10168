theorem vus {α : Type} (f : Nat → α) (k : Nat) : va_up f k (f k) = f := va_up_same rfl
def gT {s : Type} (r : Out s Int32) : Nat := match r with
  | some (Sum.inl q) => if q.1 = 0 then 0 else 1
  | _ => 0
theorem gT_0 {s : Type} {v : s} : gT (fok (0 : Int32) v) = 0 := by simp [gT]
theorem gT_1 {s : Type} {a : Int32} {v : s} (h : ¬ a = 0) : gT (fok a v) = 1 := by simp [gT, h]
theorem gT_le {s : Type} (r : Out s Int32) : gT r ≤ 1 := by
  unfold gT
  split
  · split <;> omega
  · omega
theorem gT_k {s : Type} (r : Out s Int32) : 0 + gT r ≤ 1 := by have := gT_le r; omega
theorem gT_j {s : Type} (r : Out s Int32) : 0 + 6 * gT r ≤ 6 := by have := gT_le r; omega
theorem at_rasT {m0 : Mnt} {sh : Nat → Nat} {rr : Nat → Ras} {ww : Nat → Row} {so : Nat} {sc : Src} {pl : Pal} {qo : Qoi} {pn : Pnm} {bm : Bmp} {tg : Tga} {px : Pcx} {fa : A} {hb : aH} {r : Nat} (hr : isR r) : HC m0 sh rr ww so sc pl qo pn bm tg px fa hb r = some (.inr (6, [.ref (r + 1), .int (x_w (rr r)), .int (x_g (rr r))])) := by
  rcases hr with rfl | rfl | rfl | rfl | rfl <;> rfl
theorem at_pixT {m0 : Mnt} {sh : Nat → Nat} {rr : Nat → Ras} {ww : Nat → Row} {so : Nat} {sc : Src} {pl : Pal} {qo : Qoi} {pn : Pnm} {bm : Bmp} {tg : Tga} {px : Pcx} {fa : A} {hb : aH} {r : Nat} (hr : isR r) : HC m0 sh rr ww so sc pl qo pn bm tg px fa hb (r + 1) = some (.inl (.int, 4096, .inl (x_p (rr r)))) := by
  rcases hr with rfl | rfl | rfl | rfl | rfl <;> rfl
theorem at_rowT {m0 : Mnt} {sh : Nat → Nat} {rr : Nat → Ras} {ww : Nat → Row} {so : Nat} {sc : Src} {pl : Pal} {qo : Qoi} {pn : Pnm} {bm : Bmp} {tg : Tga} {px : Pcx} {fa : A} {hb : aH} {o : Nat} (ho : isW o) : HC m0 sh rr ww so sc pl qo pn bm tg px fa hb o = some (.inr (1, [.ref (o + 1), .int (y_n (ww o))])) := by
  rcases ho with rfl | rfl <;> rfl
theorem at_cellsT {m0 : Mnt} {sh : Nat → Nat} {rr : Nat → Ras} {ww : Nat → Row} {so : Nat} {sc : Src} {pl : Pal} {qo : Qoi} {pn : Pnm} {bm : Bmp} {tg : Tga} {px : Pcx} {fa : A} {hb : aH} {o : Nat} (ho : isW o) : HC m0 sh rr ww so sc pl qo pn bm tg px fa hb (o + 1) = some (.inl (.byte, 65536, .inl (y_b (ww o)))) := by
  rcases ho with rfl | rfl <;> rfl
theorem up_rasT {m0 : Mnt} {sh : Nat → Nat} {rr : Nat → Ras} {ww : Nat → Row} {so : Nat} {sc : Src} {pl : Pal} {qo : Qoi} {pn : Pnm} {bm : Bmp} {tg : Tga} {px : Pcx} {fa : A} {hb : aH} {r : Nat} {u0 u1 : Int32} (hr : isR r) : va_up (HC m0 sh rr ww so sc pl qo pn bm tg px fa hb) (r) (some (.inr (6, [.ref (r + 1), .int u0, .int u1]))) = HC m0 sh (va_up rr r (u0, u1, x_p (rr r))) ww so sc pl qo pn bm tg px fa hb := by
  have e := up_ras (rr := rr) (x := rr r) (m0 := m0) (sh := sh) (ww := ww) (so := so) (sc := sc) (pl := pl) (qo := qo) (pn := pn) (bm := bm) (tg := tg) (px := px) (fa := fa) (hb := hb) (u0 := u0) (u1 := u1) hr
  rw [vus] at e
  exact e
theorem up_pixT {m0 : Mnt} {sh : Nat → Nat} {rr : Nat → Ras} {ww : Nat → Row} {so : Nat} {sc : Src} {pl : Pal} {qo : Qoi} {pn : Pnm} {bm : Bmp} {tg : Tga} {px : Pcx} {fa : A} {hb : aH} {r : Nat} {u : A} (hr : isR r) : va_up (HC m0 sh rr ww so sc pl qo pn bm tg px fa hb) (r + 1) (some (.inl (.int, 4096, .inl u))) = HC m0 sh (va_up rr r (x_w (rr r), x_g (rr r), u)) ww so sc pl qo pn bm tg px fa hb := by
  have e := up_pix (rr := rr) (x := rr r) (m0 := m0) (sh := sh) (ww := ww) (so := so) (sc := sc) (pl := pl) (qo := qo) (pn := pn) (bm := bm) (tg := tg) (px := px) (fa := fa) (hb := hb) (u := u) hr
  rw [vus] at e
  exact e
theorem up_rowT {m0 : Mnt} {sh : Nat → Nat} {rr : Nat → Ras} {ww : Nat → Row} {so : Nat} {sc : Src} {pl : Pal} {qo : Qoi} {pn : Pnm} {bm : Bmp} {tg : Tga} {px : Pcx} {fa : A} {hb : aH} {o : Nat} {u0 : Int32} (ho : isW o) : va_up (HC m0 sh rr ww so sc pl qo pn bm tg px fa hb) (o) (some (.inr (1, [.ref (o + 1), .int u0]))) = HC m0 sh rr (va_up ww o (u0, y_b (ww o))) so sc pl qo pn bm tg px fa hb := by
  have e := up_row (ww := ww) (y := ww o) (m0 := m0) (sh := sh) (rr := rr) (so := so) (sc := sc) (pl := pl) (qo := qo) (pn := pn) (bm := bm) (tg := tg) (px := px) (fa := fa) (hb := hb) (u0 := u0) ho
  rw [vus] at e
  exact e
theorem up_cellsT {m0 : Mnt} {sh : Nat → Nat} {rr : Nat → Ras} {ww : Nat → Row} {so : Nat} {sc : Src} {pl : Pal} {qo : Qoi} {pn : Pnm} {bm : Bmp} {tg : Tga} {px : Pcx} {fa : A} {hb : aH} {o : Nat} {u : A} (ho : isW o) : va_up (HC m0 sh rr ww so sc pl qo pn bm tg px fa hb) (o + 1) (some (.inl (.byte, 65536, .inl u))) = HC m0 sh rr (va_up ww o (y_n (ww o), u)) so sc pl qo pn bm tg px fa hb := by
  have e := up_cells (ww := ww) (y := ww o) (m0 := m0) (sh := sh) (rr := rr) (so := so) (sc := sc) (pl := pl) (qo := qo) (pn := pn) (bm := bm) (tg := tg) (px := px) (fa := fa) (hb := hb) (u := u) ho
  rw [vus] at e
  exact e
theorem inbN {i : Int32} {m : Nat} (h : inb i m) : i.toNatClampNeg < m := by
  show i.toInt.toNat < m
  omega
theorem up_shelves {m0 : Mnt} {sh : Nat → Nat} {rr : Nat → Ras} {ww : Nat → Row} {so : Nat} {sc : Src} {pl : Pal} {qo : Qoi} {pn : Pnm} {bm : Bmp} {tg : Tga} {px : Pcx} {fa : A} {hb : aH} {i v : Nat} (hi : i < 4) : va_up (HC m0 sh rr ww so sc pl qo pn bm tg px fa hb) 1 (some (.inl (.object RX7, 4, .inr (.inr (.inr (.inr (va_up (fun i => if i < 4 then some (sh i) else none) i (some v)))))))) = HC m0 (va_up sh i v) rr ww so sc pl qo pn bm tg px fa hb := by
  have e : (va_up (fun i => if i < 4 then some (sh i) else none) i (some v)) = (fun j => if j < 4 then some (va_up sh i v j) else none) := by
    funext j
    by_cases q : j = i
    · subst q; rw [va_up_self, va_up_self, if_pos hi]
    · rw [va_up_ne _ _ q, va_up_ne _ _ q]
  rw [e]
  funext k
  by_cases q : k = 1
  · subst q; rw [va_up_self]; rfl
  · rw [va_up_ne _ _ q]; unfold HC; simp only [q, if_false]
theorem up_srcR {m0 : Mnt} {sh : Nat → Nat} {rr : Nat → Ras} {ww : Nat → Row} {so : Nat} {sc : Src} {pl : Pal} {qo : Qoi} {pn : Pnm} {bm : Bmp} {tg : Tga} {px : Pcx} {fa : A} {hb : aH} {o : Nat} {u0 u1 u2 u3 : Int32} : va_up (HC m0 sh rr ww so sc pl qo pn bm tg px fa hb) 16 (some (.inr (7, [.ref (o + 1), .int u0, .int u1, .int u2, .int u3]))) = HC m0 sh rr ww o (u0, u1, u2, u3) pl qo pn bm tg px fa hb := by
  funext k
  by_cases e : k = 16
  · subst e; rw [va_up_self]; rfl
  · rw [va_up_ne _ _ e]; unfold HC; simp only [e, if_false]
theorem up_modR {mo : MO} {mw : MW} {mr : MR} {ms : Nat} {mt : A} {mu : A} {dd : A} {wi : A} {hi : A} {gt : A} {sp : A} {ta : A} {li : A} {sr : A} {co : A} {hb : aH} {q : Nat} (hq : isMS q) : va_up (HM mo mw mr ms mt mu dd wi hi gt sp ta li sr co hb) 31 (some (.inr (10, [.ref 32, .int (mo_taped mo), .ref 33, .int (mw_om mw), .int (mw_ho mw), .ref 34, .ref 35, .ref 36, .int (mo_thrown mo), .ref q, .int (mr_size mr), .int (mr_pos mr), .int (mr_kind mr), .int (mr_whr mr), .ref 37, .int (mr_gw mr), .int (mr_gh mr), .int (mr_one mr), .int (mr_two mr), .int (mr_three mr), .int (mo_tf mo), .int (mo_t1 mo), .int (mo_t2 mo), .int (mo_t3 mo), .int (mo_fp mo), .ref 38, .ref 39, .ref 40, .ref 41, .ref 42, .int (mw_cm mw)]))) = HM mo mw mr q mt mu dd wi hi gt sp ta li sr co hb := by
  rw [← rfv_ms hq]
  funext k
  by_cases e : k = 31
  · subst e; rw [va_up_self]; rfl
  · rw [va_up_ne _ _ e]; unfold HM; simp only [e, if_false]
theorem klX10_207 : Cond.classLink RX10 207 "java/lang/IllegalStateException" ∈ tb := tc4 (i := 0) (by decide +kernel) rfl
theorem ca_ISE : Cond.castable "java/lang/IllegalStateException" "java/lang/IllegalStateException" ∈ lw_tbl := tl4 (List.mem_of_getElem? (i := 21) (by decide +kernel))
abbrev cpOK (n : Int32) (f : A) : Prop := ¬ n < 0 ∧ n.toNatClampNeg ≤ 65536 ∧ ∀ i : Nat, i < n.toNatClampNeg → fits .byte (.int (f i)) = true
theorem cpX1 : Cond.methodLink RX1 27 arraycopyName ∈ tb ∧ Cond.native arraycopyName ∈ tb ∧ Cond.static arraycopyName ∈ tb ∧ Cond.initialized "java/lang/System" ∈ tb := ⟨tc2 (i := 143) (by decide +kernel) rfl, tc2 (i := 145) (by decide +kernel) rfl, tc2 (i := 144) (by decide +kernel) rfl, tc1 (i := 14) (by decide +kernel) rfl⟩
section AWR
variable {X : State → (Nat → Prop) → Prop} {M : aM} {R : Room} {gc gs k j pc n : Nat} {Po : Option Value → aH → Nat → Prop} {PX : String → aH → Nat → Prop} {lv : List (Nat × Value)} {st : List Value} {h : aH} {idx : Nat}
theorem aw_copy0 {q0 q1 : Nat} {f g : Nat → Int32} {nn : Int32} (hd : decode M.2.1 pc = .ok (.invokestatic idx, 3)) (hw : Cond.methodLink M.1.cls idx arraycopyName ∈ tb ∧ Cond.native arraycopyName ∈ tb ∧ Cond.static arraycopyName ∈ tb ∧ Cond.initialized "java/lang/System" ∈ tb) (ho0 : h q0 = some (.inl (.byte, 65536, .inl f))) (ho1 : h q1 = some (.inl (.byte, 65536, .inl g))) (hc : cpOK nn f) (hfr : 1 ≤ R.frames) (hlo : (st.map Value.category).sum + (nativeFrameWords "java/lang/System" "arraycopy" 5 + 11) ≤ R.locals) (kk : AW X M R gc gs Po PX k j (pc + 3) lv st (va_up h q1 (some (.inl (.byte, 65536, .inl (va_cpy f g 0 0 nn.toNatClampNeg))))) n) : AW X M R gc gs Po PX k j pc lv (.int nn :: .int 0 :: .ref q1 :: .int 0 :: .ref q0 :: st) h n := by
  have z : Int32.toNatClampNeg 0 = 0 := by decide
  refine aw_copyb hd hw.1 hw.2.1 hw.2.2.1 hw.2.2.2 ho0 ho1 (by decide) (by decide) hc.1 (by rw [z, Nat.zero_add]; exact hc.2.1) (by rw [z, Nat.zero_add]; exact hc.2.1) (fun i hi => by rw [z, Nat.zero_add]; exact hc.2.2 i hi) hfr hlo ?_
  rw [z]
  exact kk
end AWR
def P_X9_readFooter (m0 : Mnt) (sh : Nat → Nat) (rr : Nat → Ras) (ww : Nat → Row) (so : Nat) (pl : Pal) (qo : Qoi) (pn : Pnm) (bm : Bmp) (tg : Tga) (px : Pcx) (fa : A) (hb : aH) (n : Nat) (res : Out Src Unit) : Option Value → aH → Nat → Prop := fun r1 h2 n2 => ∃ (a : Unit) (s : Src), res = fok a s ∧ r1 = none ∧ h2 = HC m0 sh rr ww so s pl qo pn bm tg px fa hb ∧ n = n2
def X_X9_readFooter (m0 : Mnt) (sh : Nat → Nat) (rr : Nat → Ras) (ww : Nat → Row) (so : Nat) (pl : Pal) (qo : Qoi) (pn : Pnm) (bm : Bmp) (tg : Tga) (px : Pcx) (fa : A) (hb : aH) (n : Nat) (res : Out Src Unit) : String → aH → Nat → Prop := fun E h2 n2 => ∃ s : Src, res = fex E s ∧ h2 = HC m0 sh rr ww so s pl qo pn bm tg px fa hb ∧ n = n2
abbrev Q_X9_readFooter_30 (m0 : Mnt) (sh : Nat → Nat) (rr : Nat → Ras) (ww : Nat → Row) (so : Nat) (pl : Pal) (qo : Qoi) (pn : Pnm) (bm : Bmp) (tg : Tga) (px : Pcx) (fa : A) (hb : aH) (sa sv : Nat) (n : Nat) (k : Int32 → Int32 → Src → Out Src Unit) : Prop := ∀ (v1 : Int32) (t0 : Int32) (sc : Src) (res : Out Src Unit), k v1 t0 sc = res → res ≠ fno → AW (SX sa sv) mX9_readFooter (rmD 5 1 6) 0 0 (P_X9_readFooter m0 sh rr ww so pl qo pn bm tg px fa hb n res) (X_X9_readFooter m0 sh rr ww so pl qo pn bm tg px fa hb n res) 0 0 30 [(0, .ref 16), (1, .int v1)] [.int t0] (HC m0 sh rr ww so sc pl qo pn bm tg px fa hb) n
abbrev Q_X9_readFooter_33 (m0 : Mnt) (sh : Nat → Nat) (rr : Nat → Ras) (ww : Nat → Row) (so : Nat) (pl : Pal) (qo : Qoi) (pn : Pnm) (bm : Bmp) (tg : Tga) (px : Pcx) (fa : A) (hb : aH) (sa sv : Nat) (n : Nat) (k : Int32 → Int32 → Int32 → Src → Out Src Unit) : Prop := ∀ (v1 : Int32) (v2 : Int32) (v3 : Int32) (sc : Src) (res : Out Src Unit), k v1 v2 v3 sc = res → res ≠ fno → AW (SX sa sv) mX9_readFooter (rmD 5 1 6) 0 0 (P_X9_readFooter m0 sh rr ww so pl qo pn bm tg px fa hb n res) (X_X9_readFooter m0 sh rr ww so pl qo pn bm tg px fa hb n res) 0 0 33 [(0, .ref 16), (1, .int v1), (2, .int v2), (3, .int v3)] [] (HC m0 sh rr ww so sc pl qo pn bm tg px fa hb) n
abbrev Q_X9_readFooter_68 (m0 : Mnt) (sh : Nat → Nat) (rr : Nat → Ras) (ww : Nat → Row) (so : Nat) (pl : Pal) (qo : Qoi) (pn : Pnm) (bm : Bmp) (tg : Tga) (px : Pcx) (fa : A) (hb : aH) (sa sv : Nat) (n : Nat) (k : Int32 → Int32 → Int32 → Src → Out Src Unit) : Prop := ∀ (v1 : Int32) (v3 : Int32) (v4 : Int32) (sc : Src) (res : Out Src Unit), k v1 v3 v4 sc = res → res ≠ fno → AW (SX sa sv) mX9_readFooter (rmD 5 1 6) 0 0 (P_X9_readFooter m0 sh rr ww so pl qo pn bm tg px fa hb n res) (X_X9_readFooter m0 sh rr ww so pl qo pn bm tg px fa hb n res) 0 0 68 [(0, .ref 16), (1, .int v1), (3, .int v3), (4, .int v4)] [] (HC m0 sh rr ww so sc pl qo pn bm tg px fa hb) n
abbrev Q_X9_readFooter_69 (m0 : Mnt) (sh : Nat → Nat) (rr : Nat → Ras) (ww : Nat → Row) (so : Nat) (pl : Pal) (qo : Qoi) (pn : Pnm) (bm : Bmp) (tg : Tga) (px : Pcx) (fa : A) (hb : aH) (sa sv : Nat) (n : Nat) (k : Int32 → Int32 → Int32 → Int32 → Src → Out Src Unit) : Prop := ∀ (v1 : Int32) (v3 : Int32) (v4 : Int32) (t0 : Int32) (sc : Src) (res : Out Src Unit), k v1 v3 v4 t0 sc = res → res ≠ fno → AW (SX sa sv) mX9_readFooter (rmD 5 1 6) 0 0 (P_X9_readFooter m0 sh rr ww so pl qo pn bm tg px fa hb n res) (X_X9_readFooter m0 sh rr ww so pl qo pn bm tg px fa hb n res) 0 0 69 [(0, .ref 16), (1, .int v1), (3, .int v3), (4, .int v4)] [.int t0] (HC m0 sh rr ww so sc pl qo pn bm tg px fa hb) n
abbrev Q_X9_readFooter_91 (m0 : Mnt) (sh : Nat → Nat) (rr : Nat → Ras) (ww : Nat → Row) (so : Nat) (pl : Pal) (qo : Qoi) (pn : Pnm) (bm : Bmp) (tg : Tga) (px : Pcx) (fa : A) (hb : aH) (sa sv : Nat) (n : Nat) (k : Int32 → Int32 → Int32 → Int32 → Src → Out Src Unit) : Prop := ∀ (v1 : Int32) (v3 : Int32) (t0 : Int32) (t1 : Int32) (sc : Src) (res : Out Src Unit), k v1 v3 t0 t1 sc = res → res ≠ fno → AW (SX sa sv) mX9_readFooter (rmD 5 1 6) 0 0 (P_X9_readFooter m0 sh rr ww so pl qo pn bm tg px fa hb n res) (X_X9_readFooter m0 sh rr ww so pl qo pn bm tg px fa hb n res) 0 0 91 [(0, .ref 16), (1, .int v1), (3, .int v3)] [.int t0, .int t1] (HC m0 sh rr ww so sc pl qo pn bm tg px fa hb) n
abbrev Q_X9_readFooter_99 (m0 : Mnt) (sh : Nat → Nat) (rr : Nat → Ras) (ww : Nat → Row) (so : Nat) (pl : Pal) (qo : Qoi) (pn : Pnm) (bm : Bmp) (tg : Tga) (px : Pcx) (fa : A) (hb : aH) (sa sv : Nat) (n : Nat) (k : Int32 → Int32 → Int32 → Src → Out Src Unit) : Prop := ∀ (v1 : Int32) (v3 : Int32) (t0 : Int32) (sc : Src) (res : Out Src Unit), k v1 v3 t0 sc = res → res ≠ fno → AW (SX sa sv) mX9_readFooter (rmD 5 1 6) 0 0 (P_X9_readFooter m0 sh rr ww so pl qo pn bm tg px fa hb n res) (X_X9_readFooter m0 sh rr ww so pl qo pn bm tg px fa hb n res) 0 0 99 [(0, .ref 16), (1, .int v1), (3, .int v3)] [.int t0] (HC m0 sh rr ww so sc pl qo pn bm tg px fa hb) n
abbrev Q_X9_readFooter_106 (m0 : Mnt) (sh : Nat → Nat) (rr : Nat → Ras) (ww : Nat → Row) (so : Nat) (pl : Pal) (qo : Qoi) (pn : Pnm) (bm : Bmp) (tg : Tga) (px : Pcx) (fa : A) (hb : aH) (sa sv : Nat) (n : Nat) (k : Int32 → Int32 → Src → Out Src Unit) : Prop := ∀ (v1 : Int32) (v2 : Int32) (sc : Src) (res : Out Src Unit), k v1 v2 sc = res → res ≠ fno → AW (SX sa sv) mX9_readFooter (rmD 5 1 6) 0 0 (P_X9_readFooter m0 sh rr ww so pl qo pn bm tg px fa hb n res) (X_X9_readFooter m0 sh rr ww so pl qo pn bm tg px fa hb n res) 0 0 106 [(0, .ref 16), (1, .int v1), (2, .int v2)] [] (HC m0 sh rr ww so sc pl qo pn bm tg px fa hb) n
def F_X9_readFooter_106 (sb : A)  (v1 : Int32) (v2 : Int32) (sc : Src) : Out Src Unit := if v2 = 0 then (fon (F_X8_refuse 5 v1 sc) (fun _ _ => fno) (fun E s113 => fex E s113)) else (fok () sc)
set_option maxHeartbeats 1000000 in
set_option maxRecDepth 100000 in
theorem b_X9_readFooter_106 (m0 : Mnt) (sh : Nat → Nat) (rr : Nat → Ras) (ww : Nat → Row) (so : Nat) (pl : Pal) (qo : Qoi) (pn : Pnm) (bm : Bmp) (tg : Tga) (px : Pcx) (fa : A) (hb : aH) (sa sv : Nat) (n : Nat) (hso : isW so)  : Q_X9_readFooter_106 m0 sh rr ww so pl qo pn bm tg px fa hb sa sv n (F_X9_readFooter_106 (y_b (ww so))) := by
  intro v1 v2 sc res hE hF
  unfold F_X9_readFooter_106 at hE
  refine aw_iload_n dX9_readFooter_106 rfl ?_
  refine aw_if_ne (tgt := 116) dX9_readFooter_107 (by decide) (fun c107 => ?_) (fun c107 => ?_)
  · replace hE := fif hE c107
    exact aw_vret dX9_readFooter_116 rfl (Nat.zero_le _) (Nat.zero_le _) (Nat.zero_le _) (Nat.zero_le _) ⟨_, _, hE.symm, rfl, rfl, rfl⟩
  · replace hE := fit hE c107
    refine aw_aload_n dX9_readFooter_110 rfl ?_
    refine aw_iconst (v := 5) dX9_readFooter_111 (by decide) ?_
    refine aw_iload_n dX9_readFooter_112 rfl ?_
    refine aw_callV dX9_readFooter_113 at_src cvX9_80 rfl (kF_X8_refuse m0 sh rr ww so sc pl qo pn bm tg px fa hb _  5 v1 (fon_ne hE hF)) rfl (Nat.le_of_ble_eq_true rfl) (by decide) (by decide) (by decide) (by decide) (fun E h2 n2 hx => aw_out rfl (by decide) (by decide) (by obtain ⟨s113, e113, rfl, rfl⟩ := hx; exact ⟨_, (fon_ex e113 hE).symm, rfl, rfl⟩)) (fun r113 h113 n113 hp113 => ?_)
    obtain ⟨z113, s113, e113, rfl, rfl, rfl⟩ := hp113
    exact (hF (fon_ok e113 hE).symm).elim
def F_X9_readFooter_99 (sb : A) (k33 : Int32 → Int32 → Int32 → Src → Out Src Unit) (v1 : Int32) (v3 : Int32) (t0 : Int32) (sc : Src) : Out Src Unit := k33 v1 t0 (v3 + 1) sc
set_option maxHeartbeats 1000000 in
set_option maxRecDepth 100000 in
theorem b_X9_readFooter_99 (m0 : Mnt) (sh : Nat → Nat) (rr : Nat → Ras) (ww : Nat → Row) (so : Nat) (pl : Pal) (qo : Qoi) (pn : Pnm) (bm : Bmp) (tg : Tga) (px : Pcx) (fa : A) (hb : aH) (sa sv : Nat) (n : Nat) (hso : isW so) (k33 : Int32 → Int32 → Int32 → Src → Out Src Unit) (hk33 : Q_X9_readFooter_33 m0 sh rr ww so pl qo pn bm tg px fa hb sa sv n k33) : Q_X9_readFooter_99 m0 sh rr ww so pl qo pn bm tg px fa hb sa sv n (F_X9_readFooter_99 (y_b (ww so)) k33) := by
  intro v1 v3 t0 sc res hE hF
  unfold F_X9_readFooter_99 at hE
  refine aw_istore_n (lv2 := [(2, _), (0, _), (1, _), (3, _)]) dX9_readFooter_99 (by decide) rfl ?_
  refine aw_iinc (v := (v3 + 1)) (lv2 := [(3, _), (2, _), (0, _), (1, _)]) dX9_readFooter_100 rfl (incE (by decide)) (by decide) rfl ?_
  refine aw_goto (tgt := 33) dX9_readFooter_103 (by decide) ?_
  exact aw_lv _ (List.forall_mem_cons.mpr ⟨rfl, (List.forall_mem_cons.mpr ⟨rfl, (List.forall_mem_cons.mpr ⟨rfl, (List.forall_mem_cons.mpr ⟨rfl, fun _ h => absurd h List.not_mem_nil⟩)⟩)⟩)⟩) (hk33 v1 t0 (v3 + 1) sc _ hE hF)
def F_X9_readFooter_91 (sb : A) (k33 : Int32 → Int32 → Int32 → Src → Out Src Unit) (v1 : Int32) (v3 : Int32) (t0 : Int32) (t1 : Int32) (sc : Src) : Out Src Unit := if t1 = t0 then (F_X9_readFooter_99 sb k33 v1 v3 (1 : Int32) sc) else (F_X9_readFooter_99 sb k33 v1 v3 (0 : Int32) sc)
set_option maxHeartbeats 1000000 in
set_option maxRecDepth 100000 in
theorem b_X9_readFooter_91 (m0 : Mnt) (sh : Nat → Nat) (rr : Nat → Ras) (ww : Nat → Row) (so : Nat) (pl : Pal) (qo : Qoi) (pn : Pnm) (bm : Bmp) (tg : Tga) (px : Pcx) (fa : A) (hb : aH) (sa sv : Nat) (n : Nat) (hso : isW so) (k33 : Int32 → Int32 → Int32 → Src → Out Src Unit) (hk33 : Q_X9_readFooter_33 m0 sh rr ww so pl qo pn bm tg px fa hb sa sv n k33) : Q_X9_readFooter_91 m0 sh rr ww so pl qo pn bm tg px fa hb sa sv n (F_X9_readFooter_91 (y_b (ww so)) k33) := by
  intro v1 v3 t0 t1 sc res hE hF
  unfold F_X9_readFooter_91 at hE
  refine aw_icmp_ne (tgt := 98) dX9_readFooter_91 (by decide) (fun c91 => ?_) (fun c91 => ?_)
  · replace hE := fif hE c91
    refine aw_iconst (v := 0) dX9_readFooter_98 (by decide) ?_
    exact aw_lv _ (List.forall_mem_cons.mpr ⟨rfl, (List.forall_mem_cons.mpr ⟨rfl, (List.forall_mem_cons.mpr ⟨rfl, fun _ h => absurd h List.not_mem_nil⟩)⟩)⟩) (b_X9_readFooter_99 m0 sh rr ww so pl qo pn bm tg px fa hb sa sv n hso k33 hk33 v1 v3 (0 : Int32) sc _ hE hF)
  · replace hE := fit hE c91
    refine aw_iconst (v := 1) dX9_readFooter_94 (by decide) ?_
    refine aw_goto (tgt := 99) dX9_readFooter_95 (by decide) ?_
    exact aw_lv _ (List.forall_mem_cons.mpr ⟨rfl, (List.forall_mem_cons.mpr ⟨rfl, (List.forall_mem_cons.mpr ⟨rfl, fun _ h => absurd h List.not_mem_nil⟩)⟩)⟩) (b_X9_readFooter_99 m0 sh rr ww so pl qo pn bm tg px fa hb sa sv n hso k33 hk33 v1 v3 (1 : Int32) sc _ hE hF)
def F_X9_readFooter_69 (sb : A) (k33 : Int32 → Int32 → Int32 → Src → Out Src Unit) (v1 : Int32) (v3 : Int32) (v4 : Int32) (t0 : Int32) (sc : Src) : Out Src Unit := fon (F_X8_next sc sb) (fun z72 s72 => if t0 = 0 then (F_X9_readFooter_91 sb k33 v1 v3 (0 : Int32) z72 s72) else (if inb v4 17 then (F_X9_readFooter_91 sb k33 v1 v3 (footC v4) z72 s72) else fno)) (fun E s72 => fex E s72)
set_option maxHeartbeats 1000000 in
set_option maxRecDepth 100000 in
theorem b_X9_readFooter_69 (m0 : Mnt) (sh : Nat → Nat) (rr : Nat → Ras) (ww : Nat → Row) (so : Nat) (pl : Pal) (qo : Qoi) (pn : Pnm) (bm : Bmp) (tg : Tga) (px : Pcx) (fa : A) (hb : aH) (sa sv : Nat) (n : Nat) (hso : isW so) (k33 : Int32 → Int32 → Int32 → Src → Out Src Unit) (hk33 : Q_X9_readFooter_33 m0 sh rr ww so pl qo pn bm tg px fa hb sa sv n k33) : Q_X9_readFooter_69 m0 sh rr ww so pl qo pn bm tg px fa hb sa sv n (F_X9_readFooter_69 (y_b (ww so)) k33) := by
  intro v1 v3 v4 t0 sc res hE hF
  unfold F_X9_readFooter_69 at hE
  refine aw_istore (lv2 := [(5, _), (0, _), (1, _), (3, _), (4, _)]) dX9_readFooter_69 (by decide) rfl ?_
  refine aw_aload_n dX9_readFooter_71 rfl ?_
  refine aw_callV dX9_readFooter_72 at_src cvX9_19 rfl (kF_X8_next m0 sh rr ww so sc pl qo pn bm tg px fa hb _ hso  (fon_ne hE hF)) rfl (Nat.le_of_ble_eq_true rfl) (by decide) (by decide) (by decide) (by decide) (fun E h2 n2 hx => aw_out rfl (by decide) (by decide) (by obtain ⟨s72, e72, rfl, rfl⟩ := hx; exact ⟨_, (fon_ex e72 hE).symm, rfl, rfl⟩)) (fun r72 h72 n72 hp72 => ?_)
  obtain ⟨z72, s72, e72, rfl, rfl, rfl⟩ := hp72
  replace hE := fon_ok e72 hE
  refine aw_iload dX9_readFooter_75 rfl ?_
  refine aw_if_eq (tgt := 90) dX9_readFooter_77 (by decide) (fun c77 => ?_) (fun c77 => ?_)
  · replace hE := fit hE c77
    refine aw_iconst (v := 0) dX9_readFooter_90 (by decide) ?_
    exact aw_lv _ (List.forall_mem_cons.mpr ⟨rfl, (List.forall_mem_cons.mpr ⟨rfl, (List.forall_mem_cons.mpr ⟨rfl, fun _ h => absurd h List.not_mem_nil⟩)⟩)⟩) (b_X9_readFooter_91 m0 sh rr ww so pl qo pn bm tg px fa hb sa sv n hso k33 hk33 v1 v3 (0 : Int32) z72 s72 _ hE hF)
  · replace hE := fif hE c77
    refine aw_ldcT dX9_readFooter_80 (by decide) ?_
    refine aw_iload dX9_readFooter_82 rfl ?_
    obtain ⟨g84, hE⟩ := fgd hE hF
    refine aw_callT (av := [.int v4]) dX9_readFooter_84 ctX9_169 rfl (kJ0_charAt _ _ v4 g84) rfl (Nat.le_of_ble_eq_true rfl) (by decide) (by decide) (by decide) (by decide) (fun r84 h84 n84 hp84 => ?_)
    obtain ⟨rfl, rfl, rfl⟩ := hp84
    refine aw_goto (tgt := 91) dX9_readFooter_87 (by decide) ?_
    exact aw_lv _ (List.forall_mem_cons.mpr ⟨rfl, (List.forall_mem_cons.mpr ⟨rfl, (List.forall_mem_cons.mpr ⟨rfl, fun _ h => absurd h List.not_mem_nil⟩)⟩)⟩) (b_X9_readFooter_91 m0 sh rr ww so pl qo pn bm tg px fa hb sa sv n hso k33 hk33 v1 v3 (footC v4) z72 s72 _ hE hF)
def F_X9_readFooter_68 (sb : A) (k33 : Int32 → Int32 → Int32 → Src → Out Src Unit) (v1 : Int32) (v3 : Int32) (v4 : Int32) (sc : Src) : Out Src Unit := F_X9_readFooter_69 sb k33 v1 v3 v4 (0 : Int32) sc
set_option maxHeartbeats 1000000 in
set_option maxRecDepth 100000 in
theorem b_X9_readFooter_68 (m0 : Mnt) (sh : Nat → Nat) (rr : Nat → Ras) (ww : Nat → Row) (so : Nat) (pl : Pal) (qo : Qoi) (pn : Pnm) (bm : Bmp) (tg : Tga) (px : Pcx) (fa : A) (hb : aH) (sa sv : Nat) (n : Nat) (hso : isW so) (k33 : Int32 → Int32 → Int32 → Src → Out Src Unit) (hk33 : Q_X9_readFooter_33 m0 sh rr ww so pl qo pn bm tg px fa hb sa sv n k33) : Q_X9_readFooter_68 m0 sh rr ww so pl qo pn bm tg px fa hb sa sv n (F_X9_readFooter_68 (y_b (ww so)) k33) := by
  intro v1 v3 v4 sc res hE hF
  unfold F_X9_readFooter_68 at hE
  refine aw_iconst (v := 0) dX9_readFooter_68 (by decide) ?_
  exact aw_lv _ (List.forall_mem_cons.mpr ⟨rfl, (List.forall_mem_cons.mpr ⟨rfl, (List.forall_mem_cons.mpr ⟨rfl, (List.forall_mem_cons.mpr ⟨rfl, fun _ h => absurd h List.not_mem_nil⟩)⟩)⟩)⟩) (b_X9_readFooter_69 m0 sh rr ww so pl qo pn bm tg px fa hb sa sv n hso k33 hk33 v1 v3 v4 (0 : Int32) sc _ hE hF)
def F_X9_readFooter_33 (sb : A) (k33 : Int32 → Int32 → Int32 → Src → Out Src Unit) (v1 : Int32) (v2 : Int32) (v3 : Int32) (sc : Src) : Out Src Unit := if v2 = 0 then (F_X9_readFooter_106 sb v1 v2 sc) else (if 26 ≤ v3 then (F_X9_readFooter_106 sb v1 v2 sc) else (if (v3 - 8) < 0 then (F_X9_readFooter_68 sb k33 v1 v3 (v3 - 8) sc) else (if 17 ≤ (v3 - 8) then (F_X9_readFooter_68 sb k33 v1 v3 (v3 - 8) sc) else (F_X9_readFooter_69 sb k33 v1 v3 (v3 - 8) (1 : Int32) sc))))
set_option maxHeartbeats 1000000 in
set_option maxRecDepth 100000 in
theorem b_X9_readFooter_33 (m0 : Mnt) (sh : Nat → Nat) (rr : Nat → Ras) (ww : Nat → Row) (so : Nat) (pl : Pal) (qo : Qoi) (pn : Pnm) (bm : Bmp) (tg : Tga) (px : Pcx) (fa : A) (hb : aH) (sa sv : Nat) (n : Nat) (hso : isW so) (k33 : Int32 → Int32 → Int32 → Src → Out Src Unit) (hk33 : Q_X9_readFooter_33 m0 sh rr ww so pl qo pn bm tg px fa hb sa sv n k33) : Q_X9_readFooter_33 m0 sh rr ww so pl qo pn bm tg px fa hb sa sv n (F_X9_readFooter_33 (y_b (ww so)) k33) := by
  intro v1 v2 v3 sc res hE hF
  unfold F_X9_readFooter_33 at hE
  refine aw_iload_n dX9_readFooter_33 rfl ?_
  refine aw_if_eq (tgt := 106) dX9_readFooter_34 (by decide) (fun c34 => ?_) (fun c34 => ?_)
  · replace hE := fit hE c34
    exact aw_lv _ (List.forall_mem_cons.mpr ⟨rfl, (List.forall_mem_cons.mpr ⟨rfl, (List.forall_mem_cons.mpr ⟨rfl, fun _ h => absurd h List.not_mem_nil⟩)⟩)⟩) (b_X9_readFooter_106 m0 sh rr ww so pl qo pn bm tg px fa hb sa sv n hso  v1 v2 sc _ hE hF)
  · replace hE := fif hE c34
    refine aw_iload_n dX9_readFooter_37 rfl ?_
    refine aw_bipush (v := 26) dX9_readFooter_38 (by decide) ?_
    refine aw_icmp_ge (tgt := 106) dX9_readFooter_40 (by decide) (fun c40 => ?_) (fun c40 => ?_)
    · replace hE := fit hE c40
      exact aw_lv _ (List.forall_mem_cons.mpr ⟨rfl, (List.forall_mem_cons.mpr ⟨rfl, (List.forall_mem_cons.mpr ⟨rfl, fun _ h => absurd h List.not_mem_nil⟩)⟩)⟩) (b_X9_readFooter_106 m0 sh rr ww so pl qo pn bm tg px fa hb sa sv n hso  v1 v2 sc _ hE hF)
    · replace hE := fif hE c40
      refine aw_iload_n dX9_readFooter_43 rfl ?_
      refine aw_bipush (v := 8) dX9_readFooter_44 (by decide) ?_
      refine aw_isub dX9_readFooter_46 ?_
      refine aw_istore (lv2 := [(4, _), (0, _), (1, _), (2, _), (3, _)]) dX9_readFooter_47 (by decide) rfl ?_
      refine aw_iload dX9_readFooter_49 rfl ?_
      refine aw_if_lt (tgt := 68) dX9_readFooter_51 (by decide) (fun c51 => ?_) (fun c51 => ?_)
      · replace hE := fit hE c51
        exact aw_lv _ (List.forall_mem_cons.mpr ⟨rfl, (List.forall_mem_cons.mpr ⟨rfl, (List.forall_mem_cons.mpr ⟨rfl, (List.forall_mem_cons.mpr ⟨rfl, fun _ h => absurd h List.not_mem_nil⟩)⟩)⟩)⟩) (b_X9_readFooter_68 m0 sh rr ww so pl qo pn bm tg px fa hb sa sv n hso k33 hk33 v1 v3 (v3 - 8) sc _ hE hF)
      · replace hE := fif hE c51
        refine aw_iload dX9_readFooter_54 rfl ?_
        refine aw_ldcT dX9_readFooter_56 (by decide) ?_
        refine aw_callT (av := []) dX9_readFooter_58 ctX9_164 rfl (kJ0_length _ _) rfl (Nat.le_of_ble_eq_true rfl) (by decide) (by decide) (by decide) (by decide) (fun r58 h58 n58 hp58 => ?_)
        obtain ⟨rfl, rfl, rfl⟩ := hp58
        refine aw_icmp_ge (tgt := 68) dX9_readFooter_61 (by decide) (fun c61 => ?_) (fun c61 => ?_)
        · replace hE := fit hE c61
          exact aw_lv _ (List.forall_mem_cons.mpr ⟨rfl, (List.forall_mem_cons.mpr ⟨rfl, (List.forall_mem_cons.mpr ⟨rfl, (List.forall_mem_cons.mpr ⟨rfl, fun _ h => absurd h List.not_mem_nil⟩)⟩)⟩)⟩) (b_X9_readFooter_68 m0 sh rr ww so pl qo pn bm tg px fa hb sa sv n hso k33 hk33 v1 v3 (v3 - 8) sc _ hE hF)
        · replace hE := fif hE c61
          refine aw_iconst (v := 1) dX9_readFooter_64 (by decide) ?_
          refine aw_goto (tgt := 69) dX9_readFooter_65 (by decide) ?_
          exact aw_lv _ (List.forall_mem_cons.mpr ⟨rfl, (List.forall_mem_cons.mpr ⟨rfl, (List.forall_mem_cons.mpr ⟨rfl, (List.forall_mem_cons.mpr ⟨rfl, fun _ h => absurd h List.not_mem_nil⟩)⟩)⟩)⟩) (b_X9_readFooter_69 m0 sh rr ww so pl qo pn bm tg px fa hb sa sv n hso k33 hk33 v1 v3 (v3 - 8) (1 : Int32) sc _ hE hF)
def F_X9_readFooter_30 (sb : A)  (v1 : Int32) (t0 : Int32) (sc : Src) : Out Src Unit := lp (fun _ _ _ _ => fno) (F_X9_readFooter_33 sb) FU v1 t0 (0 : Int32) sc
set_option maxHeartbeats 1000000 in
set_option maxRecDepth 100000 in
theorem b_X9_readFooter_30 (m0 : Mnt) (sh : Nat → Nat) (rr : Nat → Ras) (ww : Nat → Row) (so : Nat) (pl : Pal) (qo : Qoi) (pn : Pnm) (bm : Bmp) (tg : Tga) (px : Pcx) (fa : A) (hb : aH) (sa sv : Nat) (n : Nat) (hso : isW so)  : Q_X9_readFooter_30 m0 sh rr ww so pl qo pn bm tg px fa hb sa sv n (F_X9_readFooter_30 (y_b (ww so))) := by
  intro v1 t0 sc res hE hF
  unfold F_X9_readFooter_30 at hE
  refine aw_istore_n (lv2 := [(2, _), (0, _), (1, _)]) dX9_readFooter_30 (by decide) rfl ?_
  refine aw_iconst (v := 0) dX9_readFooter_31 (by decide) ?_
  refine aw_istore_n (lv2 := [(3, _), (2, _), (0, _), (1, _)]) dX9_readFooter_32 (by decide) rfl ?_
  exact aw_lv _ (List.forall_mem_cons.mpr ⟨rfl, (List.forall_mem_cons.mpr ⟨rfl, (List.forall_mem_cons.mpr ⟨rfl, (List.forall_mem_cons.mpr ⟨rfl, fun _ h => absurd h List.not_mem_nil⟩)⟩)⟩)⟩) (lp_ind (Q_X9_readFooter_33 m0 sh rr ww so pl qo pn bm tg px fa hb sa sv n) (fun _ _ _ _ res hq hF => (hF hq.symm).elim) (fun k hk => b_X9_readFooter_33 m0 sh rr ww so pl qo pn bm tg px fa hb sa sv n hso  k hk) FU v1 t0 (0 : Int32) sc _ hE hF)
def F_X9_readFooter (sc : Src) (sb : A) : Out Src Unit := if (sc_pos sc) = (sc_size sc) then (fok () sc) else (if ((sc_size sc) - (sc_pos sc)) = 26 then (F_X9_readFooter_30 sb (sc_pos sc) (1 : Int32) sc) else (F_X9_readFooter_30 sb (sc_pos sc) (0 : Int32) sc))
set_option maxHeartbeats 1000000 in
set_option maxRecDepth 100000 in
theorem kF_X9_readFooter (m0 : Mnt) (sh : Nat → Nat) (rr : Nat → Ras) (ww : Nat → Row) (so : Nat) (sc : Src) (pl : Pal) (qo : Qoi) (pn : Pnm) (bm : Bmp) (tg : Tga) (px : Pcx) (fa : A) (hb : aH) (n : Nat) (hso : isW so)  (hF : F_X9_readFooter sc (y_b (ww so)) ≠ fno) : AM mX9_readFooter 5 [.ref 16] (HC m0 sh rr ww so sc pl qo pn bm tg px fa hb) n 1 6 0 0 (P_X9_readFooter m0 sh rr ww so pl qo pn bm tg px fa hb n (F_X9_readFooter sc (y_b (ww so)))) (X_X9_readFooter m0 sh rr ww so pl qo pn bm tg px fa hb n (F_X9_readFooter sc (y_b (ww so)))) := by
  generalize hE : F_X9_readFooter sc (y_b (ww so)) = res at hF ⊢
  refine aw_ofS (by decide +kernel) rfl (Nat.le_of_ble_eq_true rfl) (fun sa sv => ?_)
  unfold F_X9_readFooter at hE
  refine aw_aload_n dX9_readFooter_0 rfl ?_
  refine aw_getf (v := .int (sc_pos sc)) dX9_readFooter_1 flX9_74_7 at_src rfl ?_
  refine aw_istore_n (lv2 := [(1, _), (0, _)]) dX9_readFooter_4 (by decide) rfl ?_
  refine aw_iload_n dX9_readFooter_5 rfl ?_
  refine aw_aload_n dX9_readFooter_6 rfl ?_
  refine aw_getf (v := .int (sc_size sc)) dX9_readFooter_7 flX9_159_7 at_src rfl ?_
  refine aw_icmp_ne (tgt := 14) dX9_readFooter_10 (by decide) (fun c10 => ?_) (fun c10 => ?_)
  · replace hE := fif hE c10
    refine aw_aload_n dX9_readFooter_14 rfl ?_
    refine aw_getf (v := .int (sc_size sc)) dX9_readFooter_15 flX9_159_7 at_src rfl ?_
    refine aw_iload_n dX9_readFooter_18 rfl ?_
    refine aw_isub dX9_readFooter_19 ?_
    refine aw_bipush (v := 26) dX9_readFooter_20 (by decide) ?_
    refine aw_icmp_ne (tgt := 29) dX9_readFooter_22 (by decide) (fun c22 => ?_) (fun c22 => ?_)
    · replace hE := fif hE c22
      refine aw_iconst (v := 0) dX9_readFooter_29 (by decide) ?_
      exact aw_lv _ (List.forall_mem_cons.mpr ⟨rfl, (List.forall_mem_cons.mpr ⟨rfl, fun _ h => absurd h List.not_mem_nil⟩)⟩) (b_X9_readFooter_30 m0 sh rr ww so pl qo pn bm tg px fa hb sa sv n hso  (sc_pos sc) (0 : Int32) sc _ hE hF)
    · replace hE := fit hE c22
      refine aw_iconst (v := 1) dX9_readFooter_25 (by decide) ?_
      refine aw_goto (tgt := 30) dX9_readFooter_26 (by decide) ?_
      exact aw_lv _ (List.forall_mem_cons.mpr ⟨rfl, (List.forall_mem_cons.mpr ⟨rfl, fun _ h => absurd h List.not_mem_nil⟩)⟩) (b_X9_readFooter_30 m0 sh rr ww so pl qo pn bm tg px fa hb sa sv n hso  (sc_pos sc) (1 : Int32) sc _ hE hF)
  · replace hE := fit hE c10
    exact aw_vret dX9_readFooter_13 rfl (Nat.zero_le _) (Nat.zero_le _) (Nat.zero_le _) (Nat.zero_le _) ⟨_, _, hE.symm, rfl, rfl, rfl⟩
def P_X11_isTail (mo : MO) (mw : MW) (mr : MR) (ms : Nat) (mt : A) (mu : A) (dd : A) (wi : A) (hi : A) (gt : A) (sp : A) (ta : A) (li : A) (sr : A) (co : A) (hb : aH) (n : Nat) (res : Out Unit Int32) : Option Value → aH → Nat → Prop := fun r1 h2 n2 => ∃ (a : Int32) (s : Unit), res = fok a s ∧ r1 = some (.int a) ∧ h2 = HM mo mw mr ms mt mu dd wi hi gt sp ta li sr co hb ∧ n = n2
abbrev Q_X11_isTail_23 (mo : MO) (mw : MW) (mr : MR) (ms : Nat) (mt : A) (mu : A) (dd : A) (wi : A) (hi : A) (gt : A) (sp : A) (ta : A) (li : A) (sr : A) (co : A) (hb : aH) (sa sv : Nat) (n : Nat) (k : Int32 → Int32 → Out Unit Int32) : Prop := ∀ (v2 : Int32) (v3 : Int32) (res : Out Unit Int32), k v2 v3 = res → res ≠ fno → AW (SX sa sv) mX11_isTail (rmD 5 0 0) 0 0 (P_X11_isTail mo mw mr ms mt mu dd wi hi gt sp ta li sr co hb n res) (fun _ _ _ => False) 0 0 23 [(0, .ref 31), (1, .retAddr sa), (2, .int v2), (3, .int v3)] [] (HM mo mw mr ms mt mu dd wi hi gt sp ta li sr co hb) n
abbrev Q_X11_isTail_66 (mo : MO) (mw : MW) (mr : MR) (ms : Nat) (mt : A) (mu : A) (dd : A) (wi : A) (hi : A) (gt : A) (sp : A) (ta : A) (li : A) (sr : A) (co : A) (hb : aH) (sa sv : Nat) (n : Nat) (k : Int32 → Int32 → Out Unit Int32) : Prop := ∀ (v3 : Int32) (t0 : Int32) (res : Out Unit Int32), k v3 t0 = res → res ≠ fno → AW (SX sa sv) mX11_isTail (rmD 5 0 0) 0 0 (P_X11_isTail mo mw mr ms mt mu dd wi hi gt sp ta li sr co hb n res) (fun _ _ _ => False) 0 0 66 [(0, .ref 31), (1, .retAddr sa), (3, .int v3)] [.int t0] (HM mo mw mr ms mt mu dd wi hi gt sp ta li sr co hb) n
abbrev Q_X11_isTail_67 (mo : MO) (mw : MW) (mr : MR) (ms : Nat) (mt : A) (mu : A) (dd : A) (wi : A) (hi : A) (gt : A) (sp : A) (ta : A) (li : A) (sr : A) (co : A) (hb : aH) (sa sv : Nat) (n : Nat) (k : Int32 → Int32 → Int32 → Out Unit Int32) : Prop := ∀ (v3 : Int32) (t0 : Int32) (t1 : Int32) (res : Out Unit Int32), k v3 t0 t1 = res → res ≠ fno → AW (SX sa sv) mX11_isTail (rmD 5 0 0) 0 0 (P_X11_isTail mo mw mr ms mt mu dd wi hi gt sp ta li sr co hb n res) (fun _ _ _ => False) 0 0 67 [(0, .ref 31), (1, .retAddr sa), (3, .int v3)] [.int t0, .int t1] (HM mo mw mr ms mt mu dd wi hi gt sp ta li sr co hb) n
abbrev Q_X11_isTail_74 (mo : MO) (mw : MW) (mr : MR) (ms : Nat) (mt : A) (mu : A) (dd : A) (wi : A) (hi : A) (gt : A) (sp : A) (ta : A) (li : A) (sr : A) (co : A) (hb : aH) (sa sv : Nat) (n : Nat) (k : Int32 → Out Unit Int32) : Prop := ∀ (v3 : Int32) (res : Out Unit Int32), k v3 = res → res ≠ fno → AW (SX sa sv) mX11_isTail (rmD 5 0 0) 0 0 (P_X11_isTail mo mw mr ms mt mu dd wi hi gt sp ta li sr co hb n res) (fun _ _ _ => False) 0 0 74 [(0, .ref 31), (1, .retAddr sa), (3, .int v3)] [] (HM mo mw mr ms mt mu dd wi hi gt sp ta li sr co hb) n
abbrev Q_X11_isTail_75 (mo : MO) (mw : MW) (mr : MR) (ms : Nat) (mt : A) (mu : A) (dd : A) (wi : A) (hi : A) (gt : A) (sp : A) (ta : A) (li : A) (sr : A) (co : A) (hb : aH) (sa sv : Nat) (n : Nat) (k : Int32 → Int32 → Out Unit Int32) : Prop := ∀ (v3 : Int32) (t0 : Int32) (res : Out Unit Int32), k v3 t0 = res → res ≠ fno → AW (SX sa sv) mX11_isTail (rmD 5 0 0) 0 0 (P_X11_isTail mo mw mr ms mt mu dd wi hi gt sp ta li sr co hb n res) (fun _ _ _ => False) 0 0 75 [(0, .ref 31), (1, .retAddr sa), (3, .int v3)] [.int t0] (HM mo mw mr ms mt mu dd wi hi gt sp ta li sr co hb) n
def F_X11_isTail_75 (sb : A) (mr : MR) (k23 : Int32 → Int32 → Out Unit Int32) (v3 : Int32) (t0 : Int32) : Out Unit Int32 := k23 t0 (v3 + 1)
set_option maxHeartbeats 1000000 in
set_option maxRecDepth 100000 in
theorem b_X11_isTail_75 (mo : MO) (mw : MW) (mr : MR) (ms : Nat) (mt : A) (mu : A) (dd : A) (wi : A) (hi : A) (gt : A) (sp : A) (ta : A) (li : A) (sr : A) (co : A) (hb : aH) (sa sv : Nat) (n : Nat) (hms : isMS ms) (k23 : Int32 → Int32 → Out Unit Int32) (hk23 : Q_X11_isTail_23 mo mw mr ms mt mu dd wi hi gt sp ta li sr co hb sa sv n k23) : Q_X11_isTail_75 mo mw mr ms mt mu dd wi hi gt sp ta li sr co hb sa sv n (F_X11_isTail_75 (srcB ms mt mu) mr k23) := by
  intro v3 t0 res hE hF
  unfold F_X11_isTail_75 at hE
  refine aw_istore_n (lv2 := [(2, _), (0, _), (1, _), (3, _)]) dX11_isTail_75 (by decide) rfl ?_
  refine aw_iinc (v := (v3 + 1)) (lv2 := [(3, _), (2, _), (0, _), (1, _)]) dX11_isTail_76 rfl (incE (by decide)) (by decide) rfl ?_
  refine aw_goto (tgt := 23) dX11_isTail_79 (by decide) ?_
  exact aw_lv _ (List.forall_mem_cons.mpr ⟨rfl, (List.forall_mem_cons.mpr ⟨rfl, (List.forall_mem_cons.mpr ⟨rfl, (List.forall_mem_cons.mpr ⟨rfl, fun _ h => absurd h List.not_mem_nil⟩)⟩)⟩)⟩) (hk23 t0 (v3 + 1) _ hE hF)
def F_X11_isTail_74 (sb : A) (mr : MR) (k23 : Int32 → Int32 → Out Unit Int32) (v3 : Int32) : Out Unit Int32 := F_X11_isTail_75 sb mr k23 v3 (0 : Int32)
set_option maxHeartbeats 1000000 in
set_option maxRecDepth 100000 in
theorem b_X11_isTail_74 (mo : MO) (mw : MW) (mr : MR) (ms : Nat) (mt : A) (mu : A) (dd : A) (wi : A) (hi : A) (gt : A) (sp : A) (ta : A) (li : A) (sr : A) (co : A) (hb : aH) (sa sv : Nat) (n : Nat) (hms : isMS ms) (k23 : Int32 → Int32 → Out Unit Int32) (hk23 : Q_X11_isTail_23 mo mw mr ms mt mu dd wi hi gt sp ta li sr co hb sa sv n k23) : Q_X11_isTail_74 mo mw mr ms mt mu dd wi hi gt sp ta li sr co hb sa sv n (F_X11_isTail_74 (srcB ms mt mu) mr k23) := by
  intro v3 res hE hF
  unfold F_X11_isTail_74 at hE
  refine aw_iconst (v := 0) dX11_isTail_74 (by decide) ?_
  exact aw_lv _ (List.forall_mem_cons.mpr ⟨rfl, (List.forall_mem_cons.mpr ⟨rfl, (List.forall_mem_cons.mpr ⟨rfl, fun _ h => absurd h List.not_mem_nil⟩)⟩)⟩) (b_X11_isTail_75 mo mw mr ms mt mu dd wi hi gt sp ta li sr co hb sa sv n hms k23 hk23 v3 (0 : Int32) _ hE hF)
def F_X11_isTail_67 (sb : A) (mr : MR) (k23 : Int32 → Int32 → Out Unit Int32) (v3 : Int32) (t0 : Int32) (t1 : Int32) : Out Unit Int32 := if t1 = t0 then (F_X11_isTail_75 sb mr k23 v3 (1 : Int32)) else (F_X11_isTail_74 sb mr k23 v3)
set_option maxHeartbeats 1000000 in
set_option maxRecDepth 100000 in
theorem b_X11_isTail_67 (mo : MO) (mw : MW) (mr : MR) (ms : Nat) (mt : A) (mu : A) (dd : A) (wi : A) (hi : A) (gt : A) (sp : A) (ta : A) (li : A) (sr : A) (co : A) (hb : aH) (sa sv : Nat) (n : Nat) (hms : isMS ms) (k23 : Int32 → Int32 → Out Unit Int32) (hk23 : Q_X11_isTail_23 mo mw mr ms mt mu dd wi hi gt sp ta li sr co hb sa sv n k23) : Q_X11_isTail_67 mo mw mr ms mt mu dd wi hi gt sp ta li sr co hb sa sv n (F_X11_isTail_67 (srcB ms mt mu) mr k23) := by
  intro v3 t0 t1 res hE hF
  unfold F_X11_isTail_67 at hE
  refine aw_icmp_ne (tgt := 74) dX11_isTail_67 (by decide) (fun c67 => ?_) (fun c67 => ?_)
  · replace hE := fif hE c67
    exact aw_lv _ (List.forall_mem_cons.mpr ⟨rfl, (List.forall_mem_cons.mpr ⟨rfl, (List.forall_mem_cons.mpr ⟨rfl, fun _ h => absurd h List.not_mem_nil⟩)⟩)⟩) (b_X11_isTail_74 mo mw mr ms mt mu dd wi hi gt sp ta li sr co hb sa sv n hms k23 hk23 v3 _ hE hF)
  · replace hE := fit hE c67
    refine aw_iconst (v := 1) dX11_isTail_70 (by decide) ?_
    refine aw_goto (tgt := 75) dX11_isTail_71 (by decide) ?_
    exact aw_lv _ (List.forall_mem_cons.mpr ⟨rfl, (List.forall_mem_cons.mpr ⟨rfl, (List.forall_mem_cons.mpr ⟨rfl, fun _ h => absurd h List.not_mem_nil⟩)⟩)⟩) (b_X11_isTail_75 mo mw mr ms mt mu dd wi hi gt sp ta li sr co hb sa sv n hms k23 hk23 v3 (1 : Int32) _ hE hF)
def F_X11_isTail_66 (sb : A) (mr : MR) (k23 : Int32 → Int32 → Out Unit Int32) (v3 : Int32) (t0 : Int32) : Out Unit Int32 := F_X11_isTail_67 sb mr k23 v3 (0 : Int32) t0
set_option maxHeartbeats 1000000 in
set_option maxRecDepth 100000 in
theorem b_X11_isTail_66 (mo : MO) (mw : MW) (mr : MR) (ms : Nat) (mt : A) (mu : A) (dd : A) (wi : A) (hi : A) (gt : A) (sp : A) (ta : A) (li : A) (sr : A) (co : A) (hb : aH) (sa sv : Nat) (n : Nat) (hms : isMS ms) (k23 : Int32 → Int32 → Out Unit Int32) (hk23 : Q_X11_isTail_23 mo mw mr ms mt mu dd wi hi gt sp ta li sr co hb sa sv n k23) : Q_X11_isTail_66 mo mw mr ms mt mu dd wi hi gt sp ta li sr co hb sa sv n (F_X11_isTail_66 (srcB ms mt mu) mr k23) := by
  intro v3 t0 res hE hF
  unfold F_X11_isTail_66 at hE
  refine aw_iconst (v := 0) dX11_isTail_66 (by decide) ?_
  exact aw_lv _ (List.forall_mem_cons.mpr ⟨rfl, (List.forall_mem_cons.mpr ⟨rfl, (List.forall_mem_cons.mpr ⟨rfl, fun _ h => absurd h List.not_mem_nil⟩)⟩)⟩) (b_X11_isTail_67 mo mw mr ms mt mu dd wi hi gt sp ta li sr co hb sa sv n hms k23 hk23 v3 (0 : Int32) t0 _ hE hF)
def F_X11_isTail_23 (sb : A) (mr : MR) (k23 : Int32 → Int32 → Out Unit Int32) (v2 : Int32) (v3 : Int32) : Out Unit Int32 := if 26 ≤ v3 then (if isB v2 then (fok (v2 : Int32) ()) else fno) else (if v2 = 0 then (F_X11_isTail_74 sb mr k23 v3) else (fon (F_X11_b ((mr_pos mr) + v3) sb) (fun z40 s40 => if v3 < 8 then (F_X11_isTail_66 sb mr k23 v3 z40) else (if 25 ≤ v3 then (F_X11_isTail_66 sb mr k23 v3 z40) else (if inb (v3 - 8) 17 then (F_X11_isTail_67 sb mr k23 v3 (footC (v3 - 8)) z40) else fno))) (fun _ _ => fno)))
set_option maxHeartbeats 1000000 in
set_option maxRecDepth 100000 in
theorem b_X11_isTail_23 (mo : MO) (mw : MW) (mr : MR) (ms : Nat) (mt : A) (mu : A) (dd : A) (wi : A) (hi : A) (gt : A) (sp : A) (ta : A) (li : A) (sr : A) (co : A) (hb : aH) (sa sv : Nat) (n : Nat) (hms : isMS ms) (k23 : Int32 → Int32 → Out Unit Int32) (hk23 : Q_X11_isTail_23 mo mw mr ms mt mu dd wi hi gt sp ta li sr co hb sa sv n k23) : Q_X11_isTail_23 mo mw mr ms mt mu dd wi hi gt sp ta li sr co hb sa sv n (F_X11_isTail_23 (srcB ms mt mu) mr k23) := by
  intro v2 v3 res hE hF
  unfold F_X11_isTail_23 at hE
  refine aw_iload_n dX11_isTail_23 rfl ?_
  refine aw_bipush (v := 26) dX11_isTail_24 (by decide) ?_
  refine aw_icmp_ge (tgt := 82) dX11_isTail_26 (by decide) (fun c26 => ?_) (fun c26 => ?_)
  · replace hE := fit hE c26
    refine aw_iload_n dX11_isTail_82 rfl ?_
    obtain ⟨g83, hE⟩ := fgd hE hF
    exact aw_zret dX11_isTail_83 rfl (narB g83) (Nat.zero_le _) (Nat.zero_le _) (Nat.zero_le _) (Nat.zero_le _) ⟨_, _, hE.symm, rfl, rfl, rfl⟩
  · replace hE := fif hE c26
    refine aw_iload_n dX11_isTail_29 rfl ?_
    refine aw_if_eq (tgt := 74) dX11_isTail_30 (by decide) (fun c30 => ?_) (fun c30 => ?_)
    · replace hE := fit hE c30
      exact aw_lv _ (List.forall_mem_cons.mpr ⟨rfl, (List.forall_mem_cons.mpr ⟨rfl, (List.forall_mem_cons.mpr ⟨rfl, fun _ h => absurd h List.not_mem_nil⟩)⟩)⟩) (b_X11_isTail_74 mo mw mr ms mt mu dd wi hi gt sp ta li sr co hb sa sv n hms k23 hk23 v3 _ hE hF)
    · replace hE := fif hE c30
      refine aw_aload_n dX11_isTail_33 rfl ?_
      refine aw_aload_n dX11_isTail_34 rfl ?_
      refine aw_getf (v := .int (mr_pos mr)) dX11_isTail_35 flX11_84_10 at_mod rfl ?_
      refine aw_iload_n dX11_isTail_38 rfl ?_
      refine aw_iadd dX11_isTail_39 ?_
      refine aw_callV dX11_isTail_40 at_mod cvX11_99 rfl (kF_X11_b mo mw mr ms mt mu dd wi hi gt sp ta li sr co hb _ hms ((mr_pos mr) + v3) (fon_ne hE hF)) rfl (Nat.le_of_ble_eq_true rfl) (by decide) (by decide) (by decide) (by decide) (fun _ _ _ hf => False.elim hf) (fun r40 h40 n40 hp40 => ?_)
      obtain ⟨z40, s40, e40, rfl, rfl, rfl⟩ := hp40
      replace hE := fon_ok e40 hE
      refine aw_iload_n dX11_isTail_43 rfl ?_
      refine aw_bipush (v := 8) dX11_isTail_44 (by decide) ?_
      refine aw_icmp_lt (tgt := 66) dX11_isTail_46 (by decide) (fun c46 => ?_) (fun c46 => ?_)
      · replace hE := fit hE c46
        exact aw_lv _ (List.forall_mem_cons.mpr ⟨rfl, (List.forall_mem_cons.mpr ⟨rfl, (List.forall_mem_cons.mpr ⟨rfl, fun _ h => absurd h List.not_mem_nil⟩)⟩)⟩) (b_X11_isTail_66 mo mw mr ms mt mu dd wi hi gt sp ta li sr co hb sa sv n hms k23 hk23 v3 z40 _ hE hF)
      · replace hE := fif hE c46
        refine aw_iload_n dX11_isTail_49 rfl ?_
        refine aw_bipush (v := 25) dX11_isTail_50 (by decide) ?_
        refine aw_icmp_ge (tgt := 66) dX11_isTail_52 (by decide) (fun c52 => ?_) (fun c52 => ?_)
        · replace hE := fit hE c52
          exact aw_lv _ (List.forall_mem_cons.mpr ⟨rfl, (List.forall_mem_cons.mpr ⟨rfl, (List.forall_mem_cons.mpr ⟨rfl, fun _ h => absurd h List.not_mem_nil⟩)⟩)⟩) (b_X11_isTail_66 mo mw mr ms mt mu dd wi hi gt sp ta li sr co hb sa sv n hms k23 hk23 v3 z40 _ hE hF)
        · replace hE := fif hE c52
          refine aw_aload_nA dX11_isTail_55 rfl ?_
          refine aw_iload_n dX11_isTail_56 rfl ?_
          refine aw_bipush (v := 8) dX11_isTail_57 (by decide) ?_
          refine aw_isub dX11_isTail_59 ?_
          obtain ⟨g60, hE⟩ := fgd hE hF
          refine aw_callT (av := [.int (v3 - 8)]) dX11_isTail_60 ctX11_220 rfl (kJ0_charAt _ _ (v3 - 8) g60) rfl (Nat.le_of_ble_eq_true rfl) (by decide) (by decide) (by decide) (by decide) (fun r60 h60 n60 hp60 => ?_)
          obtain ⟨rfl, rfl, rfl⟩ := hp60
          refine aw_goto (tgt := 67) dX11_isTail_63 (by decide) ?_
          exact aw_lv _ (List.forall_mem_cons.mpr ⟨rfl, (List.forall_mem_cons.mpr ⟨rfl, (List.forall_mem_cons.mpr ⟨rfl, fun _ h => absurd h List.not_mem_nil⟩)⟩)⟩) (b_X11_isTail_67 mo mw mr ms mt mu dd wi hi gt sp ta li sr co hb sa sv n hms k23 hk23 v3 (footC (v3 - 8)) z40 _ hE hF)
def F_X11_isTail (sb : A) (mr : MR) : Out Unit Int32 := if ((mr_size mr) - (mr_pos mr)) = 26 then (lp (fun _ _ => fno) (F_X11_isTail_23 sb mr) FU (1 : Int32) (0 : Int32)) else (fok (0 : Int32) ())
set_option maxHeartbeats 1000000 in
set_option maxRecDepth 100000 in
theorem kF_X11_isTail (mo : MO) (mw : MW) (mr : MR) (ms : Nat) (mt : A) (mu : A) (dd : A) (wi : A) (hi : A) (gt : A) (sp : A) (ta : A) (li : A) (sr : A) (co : A) (hb : aH) (n : Nat) (hms : isMS ms)  (hF : F_X11_isTail (srcB ms mt mu) mr ≠ fno) : AM mX11_isTail 5 [.ref 31] (HM mo mw mr ms mt mu dd wi hi gt sp ta li sr co hb) n 0 0 0 0 (P_X11_isTail mo mw mr ms mt mu dd wi hi gt sp ta li sr co hb n (F_X11_isTail (srcB ms mt mu) mr)) (fun _ _ _ => False) := by
  generalize hE : F_X11_isTail (srcB ms mt mu) mr = res at hF ⊢
  refine aw_ofS (by decide +kernel) rfl (Nat.le_of_ble_eq_true rfl) (fun sa sv => ?_)
  unfold F_X11_isTail at hE
  refine aw_aload_n dX11_isTail_0 rfl ?_
  refine aw_getf (v := .int (mr_size mr)) dX11_isTail_1 flX11_87_10 at_mod rfl ?_
  refine aw_aload_n dX11_isTail_4 rfl ?_
  refine aw_getf (v := .int (mr_pos mr)) dX11_isTail_5 flX11_84_10 at_mod rfl ?_
  refine aw_isub dX11_isTail_8 ?_
  refine aw_bipush (v := 26) dX11_isTail_9 (by decide) ?_
  refine aw_icmp_eq (tgt := 16) dX11_isTail_11 (by decide) (fun c11 => ?_) (fun c11 => ?_)
  · replace hE := fit hE c11
    refine aw_ldcT dX11_isTail_16 (by decide) ?_
    refine aw_astoreA_n (lv2 := [(1, _), (0, _)]) dX11_isTail_18 (by decide) rfl ?_
    refine aw_iconst (v := 1) dX11_isTail_19 (by decide) ?_
    refine aw_istore_n (lv2 := [(2, _), (1, _), (0, _)]) dX11_isTail_20 (by decide) rfl ?_
    refine aw_iconst (v := 0) dX11_isTail_21 (by decide) ?_
    refine aw_istore_n (lv2 := [(3, _), (2, _), (1, _), (0, _)]) dX11_isTail_22 (by decide) rfl ?_
    exact aw_lv _ (List.forall_mem_cons.mpr ⟨rfl, (List.forall_mem_cons.mpr ⟨rfl, (List.forall_mem_cons.mpr ⟨rfl, (List.forall_mem_cons.mpr ⟨rfl, fun _ h => absurd h List.not_mem_nil⟩)⟩)⟩)⟩) (lp_ind (Q_X11_isTail_23 mo mw mr ms mt mu dd wi hi gt sp ta li sr co hb sa sv n) (fun _ _ res hq hF => (hF hq.symm).elim) (fun k hk => b_X11_isTail_23 mo mw mr ms mt mu dd wi hi gt sp ta li sr co hb sa sv n hms  k hk) FU (1 : Int32) (0 : Int32) _ hE hF)
  · replace hE := fif hE c11
    refine aw_iconst (v := 0) dX11_isTail_14 (by decide) ?_
    exact aw_zret dX11_isTail_15 rfl (narB (by decide)) (Nat.zero_le _) (Nat.zero_le _) (Nat.zero_le _) (Nat.zero_le _) ⟨_, _, hE.symm, rfl, rfl, rfl⟩
def P_X9_decode (m0 : Mnt) (sh : Nat → Nat) (rr : Nat → Ras) (r : Nat) (ww : Nat → Row) (so : Nat) (pl : Pal) (qo : Qoi) (pn : Pnm) (bm : Bmp) (px : Pcx) (fa : A) (hb : aH) (n : Nat) (res : Out (Ras × Src × Tga) Unit) : Option Value → aH → Nat → Prop := fun r1 h2 n2 => ∃ (a : Unit) (s : (Ras × Src × Tga)), res = fok a s ∧ r1 = none ∧ h2 = HC m0 sh (va_up rr r s.1) ww so s.2.1 pl qo pn bm s.2.2 px fa hb ∧ n = n2
def X_X9_decode (m0 : Mnt) (sh : Nat → Nat) (rr : Nat → Ras) (r : Nat) (ww : Nat → Row) (so : Nat) (pl : Pal) (qo : Qoi) (pn : Pnm) (bm : Bmp) (px : Pcx) (fa : A) (hb : aH) (n : Nat) (res : Out (Ras × Src × Tga) Unit) : String → aH → Nat → Prop := fun E h2 n2 => ∃ s : (Ras × Src × Tga), res = fex E s ∧ h2 = HC m0 sh (va_up rr r s.1) ww so s.2.1 pl qo pn bm s.2.2 px fa hb ∧ n = n2
def F_X9_decode (x : Ras) (sc : Src) (sb : A) (tg : Tga) : Out (Ras × Src × Tga) Unit := fon (F_X8_next sc sb) (fun z1 s1 => fon (F_X9_readTypes s1 sb tg) (fun z7 s7 => fon (F_X9_readMapHeader s7.1 sb s7.2) (fun z12 s12 => fon (F_X8_pass 4 s12.1 sb) (fun z17 s17 => fon (F_X9_readSize x s17 sb) (fun z22 s22 => fon (F_X9_readBits s22.2 sb s12.2) (fun z27 s27 => fon (F_X9_readFlags s27.1 sb s27.2) (fun z32 s32 => fon (F_X8_pass z1 s32.1 sb) (fun z37 s37 => fon (F_X9_readEntries s37 sb s32.2) (fun z42 s42 => fon (F_X9_readPixels s22.1 s42.1 sb s42.2) (fun z48 s48 => fon (F_X9_readFooter s48.2.1 sb) (fun z52 s52 => fok () (s48.1, s52, ((tg_type s48.2.2), (tg_bits s48.2.2), (tg_packets s48.2.2), (tg_map s48.2.2), (tg_type s48.2.2), (tg_fe s48.2.2), (tg_many s48.2.2), (tg_deep s48.2.2), (tg_bits s48.2.2), (tg_flags s48.2.2), (tg_ab s48.2.2), (tg_idx s48.2.2), (tg_packets s48.2.2), (tg_left s48.2.2), (tg_like s48.2.2), (tg_ent s48.2.2)))) (fun E s52 => fex E (s48.1, s52, s48.2.2))) (fun E s48 => fex E (s48.1, s48.2.1, s48.2.2))) (fun E s42 => fex E (s22.1, s42.1, s42.2))) (fun E s37 => fex E (s22.1, s37, s32.2))) (fun E s32 => fex E (s22.1, s32.1, s32.2))) (fun E s27 => fex E (s22.1, s27.1, s27.2))) (fun E s22 => fex E (s22.1, s22.2, s12.2))) (fun E s17 => fex E (x, s17, s12.2))) (fun E s12 => fex E (x, s12.1, s12.2))) (fun E s7 => fex E (x, s7.1, s7.2))) (fun E s1 => fex E (x, s1, tg))
set_option maxHeartbeats 1000000 in
set_option maxRecDepth 100000 in
theorem kF_X9_decode (m0 : Mnt) (sh : Nat → Nat) (rr : Nat → Ras) (r : Nat) (x : Ras) (ww : Nat → Row) (so : Nat) (sc : Src) (pl : Pal) (qo : Qoi) (pn : Pnm) (bm : Bmp) (tg : Tga) (px : Pcx) (fa : A) (hb : aH) (n : Nat) (hr : isR r) (hso : isW so)  (hF : F_X9_decode x sc (y_b (ww so)) tg ≠ fno) : AM mX9_decode 7 [.ref 26, .ref 16, .ref r] (HC m0 sh (va_up rr r x) ww so sc pl qo pn bm tg px fa hb) n 1 6 0 0 (P_X9_decode m0 sh rr r ww so pl qo pn bm px fa hb n (F_X9_decode x sc (y_b (ww so)) tg)) (X_X9_decode m0 sh rr r ww so pl qo pn bm px fa hb n (F_X9_decode x sc (y_b (ww so)) tg)) := by
  generalize hE : F_X9_decode x sc (y_b (ww so)) tg = res at hF ⊢
  refine aw_of (by decide +kernel) rfl (Nat.le_of_ble_eq_true rfl) ?_
  unfold F_X9_decode at hE
  refine aw_aload_n dX9_decode_0 rfl ?_
  refine aw_callV dX9_decode_1 at_src cvX9_19 rfl (kF_X8_next m0 sh (va_up rr r x) ww so sc pl qo pn bm tg px fa hb _ hso  (fon_ne hE hF)) rfl (Nat.le_of_ble_eq_true rfl) (by decide) (by decide) (by decide) (by decide) (fun E h2 n2 hx => aw_out rfl (by decide) (by decide) (by obtain ⟨s1, e1, rfl, rfl⟩ := hx; exact ⟨_, (fon_ex e1 hE).symm, rfl, rfl⟩)) (fun r1 h1 n1 hp1 => ?_)
  obtain ⟨z1, s1, e1, rfl, rfl, rfl⟩ := hp1
  replace hE := fon_ok e1 hE
  refine aw_istore_n (lv2 := [(3, _), (0, _), (1, _), (2, _)]) dX9_decode_4 (by decide) rfl ?_
  refine aw_aload_n dX9_decode_5 rfl ?_
  refine aw_aload_n dX9_decode_6 rfl ?_
  refine aw_callV dX9_decode_7 at_tga cvX9_25 rfl (kF_X9_readTypes m0 sh (va_up rr r x) ww so s1 pl qo pn bm tg px fa hb _ hso  (fon_ne hE hF)) rfl (Nat.le_of_ble_eq_true rfl) (by decide) (by decide) (by decide) (by decide) (fun E h2 n2 hx => aw_out rfl (by decide) (by decide) (by obtain ⟨s7, e7, rfl, rfl⟩ := hx; exact ⟨_, (fon_ex e7 hE).symm, rfl, rfl⟩)) (fun r7 h7 n7 hp7 => ?_)
  obtain ⟨z7, s7, e7, rfl, rfl, rfl⟩ := hp7
  replace hE := fon_ok e7 hE
  refine aw_aload_n dX9_decode_10 rfl ?_
  refine aw_aload_n dX9_decode_11 rfl ?_
  refine aw_callV dX9_decode_12 at_tga cvX9_29 rfl (kF_X9_readMapHeader m0 sh (va_up rr r x) ww so s7.1 pl qo pn bm s7.2 px fa hb _ hso  (fon_ne hE hF)) rfl (Nat.le_of_ble_eq_true rfl) (by decide) (by decide) (by decide) (by decide) (fun E h2 n2 hx => aw_out rfl (by decide) (by decide) (by obtain ⟨s12, e12, rfl, rfl⟩ := hx; exact ⟨_, (fon_ex e12 hE).symm, rfl, rfl⟩)) (fun r12 h12 n12 hp12 => ?_)
  obtain ⟨z12, s12, e12, rfl, rfl, rfl⟩ := hp12
  replace hE := fon_ok e12 hE
  refine aw_aload_n dX9_decode_15 rfl ?_
  refine aw_iconst (v := 4) dX9_decode_16 (by decide) ?_
  refine aw_callV dX9_decode_17 at_src cvX9_32 rfl (kF_X8_pass m0 sh (va_up rr r x) ww so s12.1 pl qo pn bm s12.2 px fa hb _ hso 4 (fon_ne hE hF)) rfl (Nat.le_of_ble_eq_true rfl) (by decide) (by decide) (by decide) (by decide) (fun E h2 n2 hx => aw_out rfl (by decide) (by decide) (by obtain ⟨s17, e17, rfl, rfl⟩ := hx; exact ⟨_, (fon_ex e17 hE).symm, rfl, rfl⟩)) (fun r17 h17 n17 hp17 => ?_)
  obtain ⟨z17, s17, e17, rfl, rfl, rfl⟩ := hp17
  replace hE := fon_ok e17 hE
  refine aw_aload_n dX9_decode_20 rfl ?_
  refine aw_aload_n dX9_decode_21 rfl ?_
  refine aw_callS dX9_decode_22  csX9_36 rfl (kF_X9_readSize m0 sh rr r x ww so s17 pl qo pn bm s12.2 px fa hb _ hr hso  (fon_ne hE hF)) rfl (Nat.le_of_ble_eq_true rfl) (by decide) (by decide) (by decide) (by decide) (fun E h2 n2 hx => aw_out rfl (by decide) (by decide) (by obtain ⟨s22, e22, rfl, rfl⟩ := hx; exact ⟨_, (fon_ex e22 hE).symm, rfl, rfl⟩)) (fun r22 h22 n22 hp22 => ?_)
  obtain ⟨z22, s22, e22, rfl, rfl, rfl⟩ := hp22
  replace hE := fon_ok e22 hE
  refine aw_aload_n dX9_decode_25 rfl ?_
  refine aw_aload_n dX9_decode_26 rfl ?_
  refine aw_callV dX9_decode_27 at_tga cvX9_40 rfl (kF_X9_readBits m0 sh (va_up rr r s22.1) ww so s22.2 pl qo pn bm s12.2 px fa hb _ hso  (fon_ne hE hF)) rfl (Nat.le_of_ble_eq_true rfl) (by decide) (by decide) (by decide) (by decide) (fun E h2 n2 hx => aw_out rfl (by decide) (by decide) (by obtain ⟨s27, e27, rfl, rfl⟩ := hx; exact ⟨_, (fon_ex e27 hE).symm, rfl, rfl⟩)) (fun r27 h27 n27 hp27 => ?_)
  obtain ⟨z27, s27, e27, rfl, rfl, rfl⟩ := hp27
  replace hE := fon_ok e27 hE
  refine aw_aload_n dX9_decode_30 rfl ?_
  refine aw_aload_n dX9_decode_31 rfl ?_
  refine aw_callV dX9_decode_32 at_tga cvX9_43 rfl (kF_X9_readFlags m0 sh (va_up rr r s22.1) ww so s27.1 pl qo pn bm s27.2 px fa hb _ hso  (fon_ne hE hF)) rfl (Nat.le_of_ble_eq_true rfl) (by decide) (by decide) (by decide) (by decide) (fun E h2 n2 hx => aw_out rfl (by decide) (by decide) (by obtain ⟨s32, e32, rfl, rfl⟩ := hx; exact ⟨_, (fon_ex e32 hE).symm, rfl, rfl⟩)) (fun r32 h32 n32 hp32 => ?_)
  obtain ⟨z32, s32, e32, rfl, rfl, rfl⟩ := hp32
  replace hE := fon_ok e32 hE
  refine aw_aload_n dX9_decode_35 rfl ?_
  refine aw_iload_n dX9_decode_36 rfl ?_
  refine aw_callV dX9_decode_37 at_src cvX9_32 rfl (kF_X8_pass m0 sh (va_up rr r s22.1) ww so s32.1 pl qo pn bm s32.2 px fa hb _ hso z1 (fon_ne hE hF)) rfl (Nat.le_of_ble_eq_true rfl) (by decide) (by decide) (by decide) (by decide) (fun E h2 n2 hx => aw_out rfl (by decide) (by decide) (by obtain ⟨s37, e37, rfl, rfl⟩ := hx; exact ⟨_, (fon_ex e37 hE).symm, rfl, rfl⟩)) (fun r37 h37 n37 hp37 => ?_)
  obtain ⟨z37, s37, e37, rfl, rfl, rfl⟩ := hp37
  replace hE := fon_ok e37 hE
  refine aw_aload_n dX9_decode_40 rfl ?_
  refine aw_aload_n dX9_decode_41 rfl ?_
  refine aw_callV dX9_decode_42 at_tga cvX9_46 rfl (kF_X9_readEntries m0 sh (va_up rr r s22.1) ww so s37 pl qo pn bm s32.2 px fa hb _ hso  (fon_ne hE hF)) rfl (Nat.le_of_ble_eq_true rfl) (by decide) (by decide) (by decide) (by decide) (fun E h2 n2 hx => aw_out rfl (by decide) (by decide) (by obtain ⟨s42, e42, rfl, rfl⟩ := hx; exact ⟨_, (fon_ex e42 hE).symm, rfl, rfl⟩)) (fun r42 h42 n42 hp42 => ?_)
  obtain ⟨z42, s42, e42, rfl, rfl, rfl⟩ := hp42
  replace hE := fon_ok e42 hE
  refine aw_aload_n dX9_decode_45 rfl ?_
  refine aw_aload_n dX9_decode_46 rfl ?_
  refine aw_aload_n dX9_decode_47 rfl ?_
  refine aw_callV dX9_decode_48 at_tga cvX9_49 rfl (kF_X9_readPixels m0 sh rr r s22.1 ww so s42.1 pl qo pn bm s42.2 px fa hb _ hr hso  (fon_ne hE hF)) rfl (Nat.le_of_ble_eq_true rfl) (by decide) (by decide) (by decide) (by decide) (fun E h2 n2 hx => aw_out rfl (by decide) (by decide) (by obtain ⟨s48, e48, rfl, rfl⟩ := hx; exact ⟨_, (fon_ex e48 hE).symm, rfl, rfl⟩)) (fun r48 h48 n48 hp48 => ?_)
  obtain ⟨z48, s48, e48, rfl, rfl, rfl⟩ := hp48
  replace hE := fon_ok e48 hE
  refine aw_aload_n dX9_decode_51 rfl ?_
  refine aw_callS dX9_decode_52  csX9_52 rfl (kF_X9_readFooter m0 sh (va_up rr r s48.1) ww so s48.2.1 pl qo pn bm s48.2.2 px fa hb _ hso  (fon_ne hE hF)) rfl (Nat.le_of_ble_eq_true rfl) (by decide) (by decide) (by decide) (by decide) (fun E h2 n2 hx => aw_out rfl (by decide) (by decide) (by obtain ⟨s52, e52, rfl, rfl⟩ := hx; exact ⟨_, (fon_ex e52 hE).symm, rfl, rfl⟩)) (fun r52 h52 n52 hp52 => ?_)
  obtain ⟨z52, s52, e52, rfl, rfl, rfl⟩ := hp52
  replace hE := fon_ok e52 hE
  refine aw_aload_n dX9_decode_55 rfl ?_
  refine aw_aload_n dX9_decode_56 rfl ?_
  refine aw_getf (v := .int (tg_type s48.2.2)) dX9_decode_57 flX9_55_8 at_tga rfl ?_
  refine aw_putf dX9_decode_60 ptX9_59_8 at_tga (Nat.le_of_ble_eq_true rfl) ⟨rfl, rfl⟩ ?_
  refine aw_eqh (h2 := HC m0 sh (va_up rr r s48.1) ww so s52 pl qo pn bm ((tg_type s48.2.2), (tg_f2 s48.2.2), (tg_f3 s48.2.2), (tg_map s48.2.2), (tg_type s48.2.2), (tg_fe s48.2.2), (tg_many s48.2.2), (tg_deep s48.2.2), (tg_bits s48.2.2), (tg_flags s48.2.2), (tg_ab s48.2.2), (tg_idx s48.2.2), (tg_packets s48.2.2), (tg_left s48.2.2), (tg_like s48.2.2), (tg_ent s48.2.2)) px fa hb) up_tga ?_
  refine aw_aload_n dX9_decode_63 rfl ?_
  refine aw_aload_n dX9_decode_64 rfl ?_
  refine aw_getf (v := .int (tg_bits s48.2.2)) dX9_decode_65 flX9_62_8 at_tga rfl ?_
  refine aw_putf dX9_decode_68 ptX9_65_8 at_tga (Nat.le_of_ble_eq_true rfl) ⟨rfl, rfl⟩ ?_
  refine aw_eqh (h2 := HC m0 sh (va_up rr r s48.1) ww so s52 pl qo pn bm ((tg_type s48.2.2), (tg_bits s48.2.2), (tg_f3 s48.2.2), (tg_map s48.2.2), (tg_type s48.2.2), (tg_fe s48.2.2), (tg_many s48.2.2), (tg_deep s48.2.2), (tg_bits s48.2.2), (tg_flags s48.2.2), (tg_ab s48.2.2), (tg_idx s48.2.2), (tg_packets s48.2.2), (tg_left s48.2.2), (tg_like s48.2.2), (tg_ent s48.2.2)) px fa hb) up_tga ?_
  refine aw_aload_n dX9_decode_71 rfl ?_
  refine aw_aload_n dX9_decode_72 rfl ?_
  refine aw_getf (v := .int (tg_packets s48.2.2)) dX9_decode_73 flX9_68_8 at_tga rfl ?_
  refine aw_putf dX9_decode_76 ptX9_71_8 at_tga (Nat.le_of_ble_eq_true rfl) ⟨rfl, rfl⟩ ?_
  refine aw_eqh (h2 := HC m0 sh (va_up rr r s48.1) ww so s52 pl qo pn bm ((tg_type s48.2.2), (tg_bits s48.2.2), (tg_packets s48.2.2), (tg_map s48.2.2), (tg_type s48.2.2), (tg_fe s48.2.2), (tg_many s48.2.2), (tg_deep s48.2.2), (tg_bits s48.2.2), (tg_flags s48.2.2), (tg_ab s48.2.2), (tg_idx s48.2.2), (tg_packets s48.2.2), (tg_left s48.2.2), (tg_like s48.2.2), (tg_ent s48.2.2)) px fa hb) up_tga ?_
  exact aw_vret dX9_decode_79 rfl (Nat.zero_le _) (Nat.zero_le _) (Nat.zero_le _) (Nat.zero_le _) ⟨_, _, hE.symm, rfl, rfl, rfl⟩
