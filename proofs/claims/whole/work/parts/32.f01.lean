def P_X0_writeRow (m0 : Mnt) (sh : Nat → Nat) (rr : Nat → Ras) (r : Nat) (x : Ras) (ww : Nat → Row) (o : Nat) (so : Nat) (sc : Src) (pl : Pal) (qo : Qoi) (pn : Pnm) (bm : Bmp) (tg : Tga) (px : Pcx) (fa : A) (hb : aH) (n : Nat) (res : Out Row Unit) : Option Value → aH → Nat → Prop := fun r1 h2 n2 => ∃ (a : Unit) (s : Row), res = fok a s ∧ r1 = none ∧ h2 = HC m0 sh (va_up rr r x) (va_up ww o s) so sc pl qo pn bm tg px fa hb ∧ n = n2
abbrev Q_X0_writeRow_3 (m0 : Mnt) (sh : Nat → Nat) (rr : Nat → Ras) (r : Nat) (x : Ras) (ww : Nat → Row) (o : Nat) (so : Nat) (sc : Src) (pl : Pal) (qo : Qoi) (pn : Pnm) (bm : Bmp) (tg : Tga) (px : Pcx) (fa : A) (hb : aH) (n : Nat) (k : Int32 → Int32 → Int32 → Row → Out Row Unit) : Prop := ∀ (v2 : Int32) (v3 : Int32) (v5 : Int32) (y : Row) (res : Out Row Unit), k v2 v3 v5 y = res → res ≠ fno → AW (fun _ _ => True) mX0_writeRow (rmD 3 0 0) 0 0 (P_X0_writeRow m0 sh rr r x ww o so sc pl qo pn bm tg px fa hb n res) (fun _ _ _ => False) 0 0 3 [(0, .ref 24), (1, .ref r), (2, .int v2), (3, .int v3), (4, .ref o), (5, .int v5)] [] (HC m0 sh (va_up rr r x) (va_up ww o y) so sc pl qo pn bm tg px fa hb) n
abbrev Q_X0_writeRow_55 (m0 : Mnt) (sh : Nat → Nat) (rr : Nat → Ras) (r : Nat) (x : Ras) (ww : Nat → Row) (o : Nat) (so : Nat) (sc : Src) (pl : Pal) (qo : Qoi) (pn : Pnm) (bm : Bmp) (tg : Tga) (px : Pcx) (fa : A) (hb : aH) (n : Nat) (k : Int32 → Int32 → Int32 → Row → Out Row Unit) : Prop := ∀ (v2 : Int32) (v3 : Int32) (v5 : Int32) (y : Row) (res : Out Row Unit), k v2 v3 v5 y = res → res ≠ fno → AW (fun _ _ => True) mX0_writeRow (rmD 3 0 0) 0 0 (P_X0_writeRow m0 sh rr r x ww o so sc pl qo pn bm tg px fa hb n res) (fun _ _ _ => False) 0 0 55 [(0, .ref 24), (1, .ref r), (2, .int v2), (3, .int v3), (4, .ref o), (5, .int v5)] [] (HC m0 sh (va_up rr r x) (va_up ww o y) so sc pl qo pn bm tg px fa hb) n
abbrev Q_X0_writeRow_77 (m0 : Mnt) (sh : Nat → Nat) (rr : Nat → Ras) (r : Nat) (x : Ras) (ww : Nat → Row) (o : Nat) (so : Nat) (sc : Src) (pl : Pal) (qo : Qoi) (pn : Pnm) (bm : Bmp) (tg : Tga) (px : Pcx) (fa : A) (hb : aH) (n : Nat) (k : Int32 → Int32 → Row → Out Row Unit) : Prop := ∀ (t0 : Int32) (t1 : Int32) (y : Row) (res : Out Row Unit), k t0 t1 y = res → res ≠ fno → AW (fun _ _ => True) mX0_writeRow (rmD 3 0 0) 0 0 (P_X0_writeRow m0 sh rr r x ww o so sc pl qo pn bm tg px fa hb n res) (fun _ _ _ => False) 0 0 77 [] [.int t0, .int t1, .ref o] (HC m0 sh (va_up rr r x) (va_up ww o y) so sc pl qo pn bm tg px fa hb) n
def F_X0_writeRow_77 (x : Ras) (pl : Pal)  (t0 : Int32) (t1 : Int32) (y : Row) : Out Row Unit := fon (F_X1_addZeros ((t1 * t0) &&& 3) y) (fun z80 s80 => fok () s80) (fun _ _ => fno)
set_option maxHeartbeats 1000000 in
set_option maxRecDepth 100000 in
theorem b_X0_writeRow_77 (m0 : Mnt) (sh : Nat → Nat) (rr : Nat → Ras) (r : Nat) (x : Ras) (ww : Nat → Row) (o : Nat) (so : Nat) (sc : Src) (pl : Pal) (qo : Qoi) (pn : Pnm) (bm : Bmp) (tg : Tga) (px : Pcx) (fa : A) (hb : aH) (n : Nat) (hr : isR r) (ho : isW o)  : Q_X0_writeRow_77 m0 sh rr r x ww o so sc pl qo pn bm tg px fa hb n (F_X0_writeRow_77 x pl) := by
  intro t0 t1 y res hE hF
  unfold F_X0_writeRow_77 at hE
  refine aw_imul dX0_writeRow_77 ?_
  refine aw_iconst (v := 3) dX0_writeRow_78 (by decide) ?_
  refine aw_iand dX0_writeRow_79 ?_
  refine aw_callV dX0_writeRow_80 (at_row ho) cvX0_215 rfl (kF_X1_addZeros m0 sh (va_up rr r x) ww o y so sc pl qo pn bm tg px fa hb _ ho ((t1 * t0) &&& 3) (fon_ne hE hF)) rfl (Nat.le_of_ble_eq_true rfl) (by decide) (by decide) (by decide) (by decide) (fun _ _ _ hf => False.elim hf) (fun r80 h80 n80 hp80 => ?_)
  obtain ⟨z80, s80, e80, rfl, rfl, rfl⟩ := hp80
  replace hE := fon_ok e80 hE
  exact aw_vret dX0_writeRow_83 rfl (Nat.zero_le _) (Nat.zero_le _) (Nat.zero_le _) (Nat.zero_le _) ⟨_, _, hE.symm, rfl, rfl, rfl⟩
def F_X0_writeRow_55 (x : Ras) (pl : Pal) (k3 : Int32 → Int32 → Int32 → Row → Out Row Unit) (v2 : Int32) (v3 : Int32) (v5 : Int32) (y : Row) : Out Row Unit := k3 v2 v3 (v5 + 1) y
set_option maxHeartbeats 1000000 in
set_option maxRecDepth 100000 in
theorem b_X0_writeRow_55 (m0 : Mnt) (sh : Nat → Nat) (rr : Nat → Ras) (r : Nat) (x : Ras) (ww : Nat → Row) (o : Nat) (so : Nat) (sc : Src) (pl : Pal) (qo : Qoi) (pn : Pnm) (bm : Bmp) (tg : Tga) (px : Pcx) (fa : A) (hb : aH) (n : Nat) (hr : isR r) (ho : isW o) (k3 : Int32 → Int32 → Int32 → Row → Out Row Unit) (hk3 : Q_X0_writeRow_3 m0 sh rr r x ww o so sc pl qo pn bm tg px fa hb n k3) : Q_X0_writeRow_55 m0 sh rr r x ww o so sc pl qo pn bm tg px fa hb n (F_X0_writeRow_55 x pl k3) := by
  intro v2 v3 v5 y res hE hF
  unfold F_X0_writeRow_55 at hE
  refine aw_iinc (v := (v5 + 1)) (lv2 := [(5, _), (0, _), (1, _), (2, _), (3, _), (4, _)]) dX0_writeRow_55 rfl (incE (by decide)) (by decide) rfl ?_
  refine aw_goto (tgt := 3) dX0_writeRow_58 (by decide) ?_
  exact aw_lv _ (List.forall_mem_cons.mpr ⟨rfl, (List.forall_mem_cons.mpr ⟨rfl, (List.forall_mem_cons.mpr ⟨rfl, (List.forall_mem_cons.mpr ⟨rfl, (List.forall_mem_cons.mpr ⟨rfl, (List.forall_mem_cons.mpr ⟨rfl, fun _ h => absurd h List.not_mem_nil⟩)⟩)⟩)⟩)⟩)⟩) (hk3 v2 v3 (v5 + 1) y _ hE hF)
def F_X0_writeRow_3 (x : Ras) (pl : Pal) (k3 : Int32 → Int32 → Int32 → Row → Out Row Unit) (v2 : Int32) (v3 : Int32) (v5 : Int32) (y : Row) : Out Row Unit := if (x_w x) ≤ v5 then (if v3 = 0 then (F_X0_writeRow_77 x pl (3 : Int32) (-(x_w x)) y) else (F_X0_writeRow_77 x pl (1 : Int32) (-(x_w x)) y)) else (fon (F_X7_get ((v2 * (x_w x)) + v5) x) (fun z22 s22 => if v3 = 0 then (fon (F_X0_writeBlueFirst z22 y) (fun z52 s52 => F_X0_writeRow_55 x pl k3 v2 v3 v5 s52) (fun _ _ => fno)) else (fon (F_X3_numberOf z22 pl) (fun z39 s39 => fon (F_X1_add z39 y) (fun z42 s42 => F_X0_writeRow_55 x pl k3 v2 v3 v5 s42) (fun _ _ => fno)) (fun _ _ => fno))) (fun _ _ => fno))
set_option maxHeartbeats 1000000 in
set_option maxRecDepth 100000 in
theorem b_X0_writeRow_3 (m0 : Mnt) (sh : Nat → Nat) (rr : Nat → Ras) (r : Nat) (x : Ras) (ww : Nat → Row) (o : Nat) (so : Nat) (sc : Src) (pl : Pal) (qo : Qoi) (pn : Pnm) (bm : Bmp) (tg : Tga) (px : Pcx) (fa : A) (hb : aH) (n : Nat) (hr : isR r) (ho : isW o) (k3 : Int32 → Int32 → Int32 → Row → Out Row Unit) (hk3 : Q_X0_writeRow_3 m0 sh rr r x ww o so sc pl qo pn bm tg px fa hb n k3) : Q_X0_writeRow_3 m0 sh rr r x ww o so sc pl qo pn bm tg px fa hb n (F_X0_writeRow_3 x pl k3) := by
  intro v2 v3 v5 y res hE hF
  unfold F_X0_writeRow_3 at hE
  refine aw_iload dX0_writeRow_3 rfl ?_
  refine aw_aload_n dX0_writeRow_5 rfl ?_
  refine aw_getf (v := .int (x_w x)) dX0_writeRow_6 flX0_119_6 (at_ras hr) rfl ?_
  refine aw_icmp_ge (tgt := 61) dX0_writeRow_9 (by decide) (fun c9 => ?_) (fun c9 => ?_)
  · replace hE := fit hE c9
    refine aw_aload dX0_writeRow_61 rfl ?_
    refine aw_aload_n dX0_writeRow_63 rfl ?_
    refine aw_getf (v := .int (x_w x)) dX0_writeRow_64 flX0_119_6 (at_ras hr) rfl ?_
    refine aw_ineg dX0_writeRow_67 ?_
    refine aw_iload_n dX0_writeRow_68 rfl ?_
    refine aw_if_eq (tgt := 76) dX0_writeRow_69 (by decide) (fun c69 => ?_) (fun c69 => ?_)
    · replace hE := fit hE c69
      refine aw_iconst (v := 3) dX0_writeRow_76 (by decide) ?_
      exact aw_lv _ (fun _ h => absurd h List.not_mem_nil) (b_X0_writeRow_77 m0 sh rr r x ww o so sc pl qo pn bm tg px fa hb n hr ho  (3 : Int32) (-(x_w x)) y _ hE hF)
    · replace hE := fif hE c69
      refine aw_iconst (v := 1) dX0_writeRow_72 (by decide) ?_
      refine aw_goto (tgt := 77) dX0_writeRow_73 (by decide) ?_
      exact aw_lv _ (fun _ h => absurd h List.not_mem_nil) (b_X0_writeRow_77 m0 sh rr r x ww o so sc pl qo pn bm tg px fa hb n hr ho  (1 : Int32) (-(x_w x)) y _ hE hF)
  · replace hE := fif hE c9
    refine aw_aload_n dX0_writeRow_12 rfl ?_
    refine aw_iload_n dX0_writeRow_13 rfl ?_
    refine aw_aload_n dX0_writeRow_14 rfl ?_
    refine aw_getf (v := .int (x_w x)) dX0_writeRow_15 flX0_119_6 (at_ras hr) rfl ?_
    refine aw_imul dX0_writeRow_18 ?_
    refine aw_iload dX0_writeRow_19 rfl ?_
    refine aw_iadd dX0_writeRow_21 ?_
    refine aw_callV dX0_writeRow_22 (at_ras hr) cvX0_233 rfl (kF_X7_get m0 sh rr r x (va_up ww o y) so sc pl qo pn bm tg px fa hb _ hr ((v2 * (x_w x)) + v5) (fon_ne hE hF)) rfl (Nat.le_of_ble_eq_true rfl) (by decide) (by decide) (by decide) (by decide) (fun _ _ _ hf => False.elim hf) (fun r22 h22 n22 hp22 => ?_)
    obtain ⟨z22, s22, e22, rfl, rfl, rfl⟩ := hp22
    replace hE := fon_ok e22 hE
    refine aw_istore (lv2 := [(6, _), (0, _), (1, _), (2, _), (3, _), (4, _), (5, _)]) dX0_writeRow_25 (by decide) rfl ?_
    refine aw_iload_n dX0_writeRow_27 rfl ?_
    refine aw_if_eq (tgt := 48) dX0_writeRow_28 (by decide) (fun c28 => ?_) (fun c28 => ?_)
    · replace hE := fit hE c28
      refine aw_iload dX0_writeRow_48 rfl ?_
      refine aw_aload dX0_writeRow_50 rfl ?_
      refine aw_callS dX0_writeRow_52  csX0_194 rfl (kF_X0_writeBlueFirst m0 sh (va_up rr r x) ww o y so sc pl qo pn bm tg px fa hb _ ho z22 (fon_ne hE hF)) rfl (Nat.le_of_ble_eq_true rfl) (by decide) (by decide) (by decide) (by decide) (fun _ _ _ hf => False.elim hf) (fun r52 h52 n52 hp52 => ?_)
      obtain ⟨z52, s52, e52, rfl, rfl, rfl⟩ := hp52
      replace hE := fon_ok e52 hE
      exact aw_lv _ (List.forall_mem_cons.mpr ⟨rfl, (List.forall_mem_cons.mpr ⟨rfl, (List.forall_mem_cons.mpr ⟨rfl, (List.forall_mem_cons.mpr ⟨rfl, (List.forall_mem_cons.mpr ⟨rfl, (List.forall_mem_cons.mpr ⟨rfl, fun _ h => absurd h List.not_mem_nil⟩)⟩)⟩)⟩)⟩)⟩) (b_X0_writeRow_55 m0 sh rr r x ww o so sc pl qo pn bm tg px fa hb n hr ho k3 hk3 v2 v3 v5 s52 _ hE hF)
    · replace hE := fif hE c28
      refine aw_aload dX0_writeRow_31 rfl ?_
      refine aw_aload_n dX0_writeRow_33 rfl ?_
      refine aw_getf (v := .ref 17) dX0_writeRow_34 flX0_15_0 at_bmp rfl ?_
      refine aw_iload dX0_writeRow_37 rfl ?_
      refine aw_callV dX0_writeRow_39 at_pal cvX0_234 rfl (kF_X3_numberOf m0 sh (va_up rr r x) (va_up ww o y) so sc pl qo pn bm tg px fa hb _  z22 (fon_ne hE hF)) rfl (Nat.le_of_ble_eq_true rfl) (by decide) (by decide) (by decide) (by decide) (fun _ _ _ hf => False.elim hf) (fun r39 h39 n39 hp39 => ?_)
      obtain ⟨z39, s39, e39, rfl, rfl, rfl⟩ := hp39
      replace hE := fon_ok e39 hE
      refine aw_callV dX0_writeRow_42 (at_row ho) cvX0_198 rfl (kF_X1_add m0 sh (va_up rr r x) ww o y so sc pl qo pn bm tg px fa hb _ ho z39 (fon_ne hE hF)) rfl (Nat.le_of_ble_eq_true rfl) (by decide) (by decide) (by decide) (by decide) (fun _ _ _ hf => False.elim hf) (fun r42 h42 n42 hp42 => ?_)
      obtain ⟨z42, s42, e42, rfl, rfl, rfl⟩ := hp42
      replace hE := fon_ok e42 hE
      refine aw_goto (tgt := 55) dX0_writeRow_45 (by decide) ?_
      exact aw_lv _ (List.forall_mem_cons.mpr ⟨rfl, (List.forall_mem_cons.mpr ⟨rfl, (List.forall_mem_cons.mpr ⟨rfl, (List.forall_mem_cons.mpr ⟨rfl, (List.forall_mem_cons.mpr ⟨rfl, (List.forall_mem_cons.mpr ⟨rfl, fun _ h => absurd h List.not_mem_nil⟩)⟩)⟩)⟩)⟩)⟩) (b_X0_writeRow_55 m0 sh rr r x ww o so sc pl qo pn bm tg px fa hb n hr ho k3 hk3 v2 v3 v5 s42 _ hE hF)
def F_X0_writeRow (a2 : Int32) (a3 : Int32) (x : Ras) (y : Row) (pl : Pal) : Out Row Unit := lp (fun _ _ _ _ => fno) (F_X0_writeRow_3 x pl) FU a2 a3 (0 : Int32) y
set_option maxHeartbeats 1000000 in
set_option maxRecDepth 100000 in
theorem kF_X0_writeRow (m0 : Mnt) (sh : Nat → Nat) (rr : Nat → Ras) (r : Nat) (x : Ras) (ww : Nat → Row) (o : Nat) (y : Row) (so : Nat) (sc : Src) (pl : Pal) (qo : Qoi) (pn : Pnm) (bm : Bmp) (tg : Tga) (px : Pcx) (fa : A) (hb : aH) (n : Nat) (hr : isR r) (ho : isW o) (a2 : Int32) (a3 : Int32) (hF : F_X0_writeRow a2 a3 x y pl ≠ fno) : AM mX0_writeRow 3 [.ref 24, .ref r, .int a2, .int a3, .ref o] (HC m0 sh (va_up rr r x) (va_up ww o y) so sc pl qo pn bm tg px fa hb) n 0 0 0 0 (P_X0_writeRow m0 sh rr r x ww o so sc pl qo pn bm tg px fa hb n (F_X0_writeRow a2 a3 x y pl)) (fun _ _ _ => False) := by
  generalize hE : F_X0_writeRow a2 a3 x y pl = res at hF ⊢
  refine aw_of (by decide +kernel) rfl (Nat.le_of_ble_eq_true rfl) ?_
  unfold F_X0_writeRow at hE
  refine aw_iconst (v := 0) dX0_writeRow_0 (by decide) ?_
  refine aw_istore (lv2 := [(5, _), (0, _), (1, _), (2, _), (3, _), (4, _)]) dX0_writeRow_1 (by decide) rfl ?_
  exact aw_lv _ (List.forall_mem_cons.mpr ⟨rfl, (List.forall_mem_cons.mpr ⟨rfl, (List.forall_mem_cons.mpr ⟨rfl, (List.forall_mem_cons.mpr ⟨rfl, (List.forall_mem_cons.mpr ⟨rfl, (List.forall_mem_cons.mpr ⟨rfl, fun _ h => absurd h List.not_mem_nil⟩)⟩)⟩)⟩)⟩)⟩) (lp_ind (Q_X0_writeRow_3 m0 sh rr r x ww o so sc pl qo pn bm tg px fa hb n) (fun _ _ _ _ res hq hF => (hF hq.symm).elim) (fun k hk => b_X0_writeRow_3 m0 sh rr r x ww o so sc pl qo pn bm tg px fa hb n hr ho  k hk) FU a2 a3 (0 : Int32) y _ hE hF)
def P_X1_setLow4 (m0 : Mnt) (sh : Nat → Nat) (rr : Nat → Ras) (ww : Nat → Row) (o : Nat) (so : Nat) (sc : Src) (pl : Pal) (qo : Qoi) (pn : Pnm) (bm : Bmp) (tg : Tga) (px : Pcx) (fa : A) (hb : aH) (n : Nat) (res : Out Row Unit) : Option Value → aH → Nat → Prop := fun r1 h2 n2 => ∃ (a : Unit) (s : Row), res = fok a s ∧ r1 = none ∧ h2 = HC m0 sh rr (va_up ww o s) so sc pl qo pn bm tg px fa hb ∧ n = n2
abbrev Q_X1_setLow4_17 (m0 : Mnt) (sh : Nat → Nat) (rr : Nat → Ras) (ww : Nat → Row) (o : Nat) (so : Nat) (sc : Src) (pl : Pal) (qo : Qoi) (pn : Pnm) (bm : Bmp) (tg : Tga) (px : Pcx) (fa : A) (hb : aH) (n : Nat) (k : Int32 → Int32 → Int32 → Row → Out Row Unit) : Prop := ∀ (v1 : Int32) (v2 : Int32) (v3 : Int32) (y : Row) (res : Out Row Unit), k v1 v2 v3 y = res → res ≠ fno → AW (fun _ _ => True) mX1_setLow4 (rmD 1 0 0) 0 0 (P_X1_setLow4 m0 sh rr ww o so sc pl qo pn bm tg px fa hb n res) (fun _ _ _ => False) 0 0 17 [(0, .ref o), (1, .int v1), (2, .int v2), (3, .int v3)] [] (HC m0 sh rr (va_up ww o y) so sc pl qo pn bm tg px fa hb) n
def F_X1_setLow4_17  (k17 : Int32 → Int32 → Int32 → Row → Out Row Unit) (v1 : Int32) (v2 : Int32) (v3 : Int32) (y : Row) : Out Row Unit := if 4 ≤ v3 then (fok () y) else (if inb (v1 + v3) 65536 then (k17 v1 v2 (v3 + 1) ((y_n y), (upd (y_b y) (Int32.toNatClampNeg (v1 + v3)) (vp_nar .byte ((v2 >>> ((8 * v3) &&& 31))).toInt8.toInt32)))) else fno)
set_option maxHeartbeats 1000000 in
set_option maxRecDepth 100000 in
theorem b_X1_setLow4_17 (m0 : Mnt) (sh : Nat → Nat) (rr : Nat → Ras) (ww : Nat → Row) (o : Nat) (so : Nat) (sc : Src) (pl : Pal) (qo : Qoi) (pn : Pnm) (bm : Bmp) (tg : Tga) (px : Pcx) (fa : A) (hb : aH) (n : Nat) (ho : isW o) (k17 : Int32 → Int32 → Int32 → Row → Out Row Unit) (hk17 : Q_X1_setLow4_17 m0 sh rr ww o so sc pl qo pn bm tg px fa hb n k17) : Q_X1_setLow4_17 m0 sh rr ww o so sc pl qo pn bm tg px fa hb n (F_X1_setLow4_17 k17) := by
  intro v1 v2 v3 y res hE hF
  unfold F_X1_setLow4_17 at hE
  refine aw_iload_n dX1_setLow4_17 rfl ?_
  refine aw_iconst (v := 4) dX1_setLow4_18 (by decide) ?_
  refine aw_icmp_ge (tgt := 43) dX1_setLow4_19 (by decide) (fun c19 => ?_) (fun c19 => ?_)
  · replace hE := fit hE c19
    exact aw_vret dX1_setLow4_43 rfl (Nat.zero_le _) (Nat.zero_le _) (Nat.zero_le _) (Nat.zero_le _) ⟨_, _, hE.symm, rfl, rfl, rfl⟩
  · replace hE := fif hE c19
    refine aw_aload_n dX1_setLow4_22 rfl ?_
    refine aw_getf (v := .ref (o + 1)) dX1_setLow4_23 flX1_10_1 (at_row ho) rfl ?_
    refine aw_iload_n dX1_setLow4_26 rfl ?_
    refine aw_iload_n dX1_setLow4_27 rfl ?_
    refine aw_iadd dX1_setLow4_28 ?_
    refine aw_iload_n dX1_setLow4_29 rfl ?_
    refine aw_bipush (v := 8) dX1_setLow4_30 (by decide) ?_
    refine aw_iload_n dX1_setLow4_32 rfl ?_
    refine aw_imul dX1_setLow4_33 ?_
    refine aw_ishr dX1_setLow4_34 ?_
    refine aw_i2b dX1_setLow4_35 ?_
    obtain ⟨g36, hE⟩ := fgd hE hF
    refine aw_bast (f := (y_b y)) dX1_setLow4_36 (at_cells ho) (vp_in_iff.mpr g36) ?_
    refine aw_eqh (h2 := HC m0 sh rr (va_up ww o ((y_n y), (upd (y_b y) (Int32.toNatClampNeg (v1 + v3)) (vp_nar .byte ((v2 >>> ((8 * v3) &&& 31))).toInt8.toInt32)))) so sc pl qo pn bm tg px fa hb) (up_cells ho) ?_
    refine aw_iinc (v := (v3 + 1)) (lv2 := [(3, _), (0, _), (1, _), (2, _)]) dX1_setLow4_37 rfl (incE (by decide)) (by decide) rfl ?_
    refine aw_goto (tgt := 17) dX1_setLow4_40 (by decide) ?_
    exact aw_lv _ (List.forall_mem_cons.mpr ⟨rfl, (List.forall_mem_cons.mpr ⟨rfl, (List.forall_mem_cons.mpr ⟨rfl, (List.forall_mem_cons.mpr ⟨rfl, fun _ h => absurd h List.not_mem_nil⟩)⟩)⟩)⟩) (hk17 v1 v2 (v3 + 1) ((y_n y), (upd (y_b y) (Int32.toNatClampNeg (v1 + v3)) (vp_nar .byte ((v2 >>> ((8 * v3) &&& 31))).toInt8.toInt32))) _ hE hF)
def F_X1_setLow4 (a1 : Int32) (a2 : Int32) (y : Row) : Out Row Unit := if a1 < 0 then (fok () y) else (if a1 ≤ ((y_n y) - 4) then (lp (fun _ _ _ _ => fno) (F_X1_setLow4_17 ) FU a1 a2 (0 : Int32) y) else (fok () y))
set_option maxHeartbeats 1000000 in
set_option maxRecDepth 100000 in
theorem kF_X1_setLow4 (m0 : Mnt) (sh : Nat → Nat) (rr : Nat → Ras) (ww : Nat → Row) (o : Nat) (y : Row) (so : Nat) (sc : Src) (pl : Pal) (qo : Qoi) (pn : Pnm) (bm : Bmp) (tg : Tga) (px : Pcx) (fa : A) (hb : aH) (n : Nat) (ho : isW o) (a1 : Int32) (a2 : Int32) (hF : F_X1_setLow4 a1 a2 y ≠ fno) : AM mX1_setLow4 1 [.ref o, .int a1, .int a2] (HC m0 sh rr (va_up ww o y) so sc pl qo pn bm tg px fa hb) n 0 0 0 0 (P_X1_setLow4 m0 sh rr ww o so sc pl qo pn bm tg px fa hb n (F_X1_setLow4 a1 a2 y)) (fun _ _ _ => False) := by
  generalize hE : F_X1_setLow4 a1 a2 y = res at hF ⊢
  refine aw_of (by decide +kernel) rfl (Nat.le_of_ble_eq_true rfl) ?_
  unfold F_X1_setLow4 at hE
  refine aw_iload_n dX1_setLow4_0 rfl ?_
  refine aw_if_lt (tgt := 14) dX1_setLow4_1 (by decide) (fun c1 => ?_) (fun c1 => ?_)
  · replace hE := fit hE c1
    exact aw_vret dX1_setLow4_14 rfl (Nat.zero_le _) (Nat.zero_le _) (Nat.zero_le _) (Nat.zero_le _) ⟨_, _, hE.symm, rfl, rfl, rfl⟩
  · replace hE := fif hE c1
    refine aw_iload_n dX1_setLow4_4 rfl ?_
    refine aw_aload_n dX1_setLow4_5 rfl ?_
    refine aw_getf (v := .int (y_n y)) dX1_setLow4_6 flX1_16_1 (at_row ho) rfl ?_
    refine aw_iconst (v := 4) dX1_setLow4_9 (by decide) ?_
    refine aw_isub dX1_setLow4_10 ?_
    refine aw_icmp_le (tgt := 15) dX1_setLow4_11 (by decide) (fun c11 => ?_) (fun c11 => ?_)
    · replace hE := fit hE c11
      refine aw_iconst (v := 0) dX1_setLow4_15 (by decide) ?_
      refine aw_istore_n (lv2 := [(3, _), (0, _), (1, _), (2, _)]) dX1_setLow4_16 (by decide) rfl ?_
      exact aw_lv _ (List.forall_mem_cons.mpr ⟨rfl, (List.forall_mem_cons.mpr ⟨rfl, (List.forall_mem_cons.mpr ⟨rfl, (List.forall_mem_cons.mpr ⟨rfl, fun _ h => absurd h List.not_mem_nil⟩)⟩)⟩)⟩) (lp_ind (Q_X1_setLow4_17 m0 sh rr ww o so sc pl qo pn bm tg px fa hb n) (fun _ _ _ _ res hq hF => (hF hq.symm).elim) (fun k hk => b_X1_setLow4_17 m0 sh rr ww o so sc pl qo pn bm tg px fa hb n ho  k hk) FU a1 a2 (0 : Int32) y _ hE hF)
    · replace hE := fif hE c11
      exact aw_vret dX1_setLow4_14 rfl (Nat.zero_le _) (Nat.zero_le _) (Nat.zero_le _) (Nat.zero_le _) ⟨_, _, hE.symm, rfl, rfl, rfl⟩
def P_X4_sampleAt (m0 : Mnt) (sh : Nat → Nat) (rr : Nat → Ras) (r : Nat) (x : Ras) (ww : Nat → Row) (so : Nat) (sc : Src) (pl : Pal) (qo : Qoi) (pn : Pnm) (bm : Bmp) (tg : Tga) (px : Pcx) (fa : A) (hb : aH) (n : Nat) (res : Out Unit Int32) : Option Value → aH → Nat → Prop := fun r1 h2 n2 => ∃ (a : Int32) (s : Unit), res = fok a s ∧ r1 = some (.int a) ∧ h2 = HC m0 sh (va_up rr r x) ww so sc pl qo pn bm tg px fa hb ∧ n = n2
def F_X4_sampleAt (a2 : Int32) (a3 : Int32) (a4 : Int32) (x : Ras) (pl : Pal) : Out Unit Int32 := if a4 < (x_w x) then (fon (F_X7_get ((a2 * (x_w x)) + a4) x) (fun z21 s21 => if a3 = (-1) then (fon (F_X3_numberOf z21 pl) (fun z37 s37 => fok (z37 : Int32) ()) (fun _ _ => fno)) else (fok (((us z21 (24 - (8 * a3))) &&& 255) : Int32) ())) (fun _ _ => fno)) else (fok (0 : Int32) ())
set_option maxHeartbeats 1000000 in
set_option maxRecDepth 100000 in
theorem kF_X4_sampleAt (m0 : Mnt) (sh : Nat → Nat) (rr : Nat → Ras) (r : Nat) (x : Ras) (ww : Nat → Row) (so : Nat) (sc : Src) (pl : Pal) (qo : Qoi) (pn : Pnm) (bm : Bmp) (tg : Tga) (px : Pcx) (fa : A) (hb : aH) (n : Nat) (hr : isR r) (a2 : Int32) (a3 : Int32) (a4 : Int32) (hF : F_X4_sampleAt a2 a3 a4 x pl ≠ fno) : AM mX4_sampleAt 3 [.ref 28, .ref r, .int a2, .int a3, .int a4] (HC m0 sh (va_up rr r x) ww so sc pl qo pn bm tg px fa hb) n 0 0 0 0 (P_X4_sampleAt m0 sh rr r x ww so sc pl qo pn bm tg px fa hb n (F_X4_sampleAt a2 a3 a4 x pl)) (fun _ _ _ => False) := by
  generalize hE : F_X4_sampleAt a2 a3 a4 x pl = res at hF ⊢
  refine aw_of (by decide +kernel) rfl (Nat.le_of_ble_eq_true rfl) ?_
  unfold F_X4_sampleAt at hE
  refine aw_iload dX4_sampleAt_0 rfl ?_
  refine aw_aload_n dX4_sampleAt_2 rfl ?_
  refine aw_getf (v := .int (x_w x)) dX4_sampleAt_3 flX4_46_6 (at_ras hr) rfl ?_
  refine aw_icmp_lt (tgt := 11) dX4_sampleAt_6 (by decide) (fun c6 => ?_) (fun c6 => ?_)
  · replace hE := fit hE c6
    refine aw_aload_n dX4_sampleAt_11 rfl ?_
    refine aw_iload_n dX4_sampleAt_12 rfl ?_
    refine aw_aload_n dX4_sampleAt_13 rfl ?_
    refine aw_getf (v := .int (x_w x)) dX4_sampleAt_14 flX4_46_6 (at_ras hr) rfl ?_
    refine aw_imul dX4_sampleAt_17 ?_
    refine aw_iload dX4_sampleAt_18 rfl ?_
    refine aw_iadd dX4_sampleAt_20 ?_
    refine aw_callV dX4_sampleAt_21 (at_ras hr) cvX4_128 rfl (kF_X7_get m0 sh rr r x ww so sc pl qo pn bm tg px fa hb _ hr ((a2 * (x_w x)) + a4) (fon_ne hE hF)) rfl (Nat.le_of_ble_eq_true rfl) (by decide) (by decide) (by decide) (by decide) (fun _ _ _ hf => False.elim hf) (fun r21 h21 n21 hp21 => ?_)
    obtain ⟨z21, s21, e21, rfl, rfl, rfl⟩ := hp21
    replace hE := fon_ok e21 hE
    refine aw_istore (lv2 := [(5, _), (0, _), (1, _), (2, _), (3, _), (4, _)]) dX4_sampleAt_24 (by decide) rfl ?_
    refine aw_iload_n dX4_sampleAt_26 rfl ?_
    refine aw_iconst (v := (-1)) dX4_sampleAt_27 (by decide) ?_
    refine aw_icmp_ne (tgt := 43) dX4_sampleAt_28 (by decide) (fun c28 => ?_) (fun c28 => ?_)
    · replace hE := fif hE c28
      refine aw_iload dX4_sampleAt_43 rfl ?_
      refine aw_bipush (v := 24) dX4_sampleAt_45 (by decide) ?_
      refine aw_bipush (v := 8) dX4_sampleAt_47 (by decide) ?_
      refine aw_iload_n dX4_sampleAt_49 rfl ?_
      refine aw_imul dX4_sampleAt_50 ?_
      refine aw_isub dX4_sampleAt_51 ?_
      refine aw_iushr dX4_sampleAt_52 ?_
      refine aw_sipush (v := 255) dX4_sampleAt_53 (by decide) ?_
      refine aw_iand dX4_sampleAt_56 ?_
      exact aw_iret dX4_sampleAt_57 rfl (Nat.zero_le _) (Nat.zero_le _) (Nat.zero_le _) (Nat.zero_le _) ⟨_, _, hE.symm, rfl, rfl, rfl⟩
    · replace hE := fit hE c28
      refine aw_aload_n dX4_sampleAt_31 rfl ?_
      refine aw_getf (v := .ref 17) dX4_sampleAt_32 flX4_15_3 at_pcx rfl ?_
      refine aw_iload dX4_sampleAt_35 rfl ?_
      refine aw_callV dX4_sampleAt_37 at_pal cvX4_173 rfl (kF_X3_numberOf m0 sh (va_up rr r x) ww so sc pl qo pn bm tg px fa hb _  z21 (fon_ne hE hF)) rfl (Nat.le_of_ble_eq_true rfl) (by decide) (by decide) (by decide) (by decide) (fun _ _ _ hf => False.elim hf) (fun r37 h37 n37 hp37 => ?_)
      obtain ⟨z37, s37, e37, rfl, rfl, rfl⟩ := hp37
      replace hE := fon_ok e37 hE
      refine aw_goto (tgt := 57) dX4_sampleAt_40 (by decide) ?_
      exact aw_iret dX4_sampleAt_57 rfl (Nat.zero_le _) (Nat.zero_le _) (Nat.zero_le _) (Nat.zero_le _) ⟨_, _, hE.symm, rfl, rfl, rfl⟩
  · replace hE := fif hE c6
    refine aw_iconst (v := 0) dX4_sampleAt_9 (by decide) ?_
    exact aw_iret dX4_sampleAt_10 rfl (Nat.zero_le _) (Nat.zero_le _) (Nat.zero_le _) (Nat.zero_le _) ⟨_, _, hE.symm, rfl, rfl, rfl⟩
def P_X4_writeTable (m0 : Mnt) (sh : Nat → Nat) (rr : Nat → Ras) (ww : Nat → Row) (o : Nat) (so : Nat) (sc : Src) (pl : Pal) (qo : Qoi) (pn : Pnm) (bm : Bmp) (tg : Tga) (px : Pcx) (fa : A) (hb : aH) (n : Nat) (res : Out Row Unit) : Option Value → aH → Nat → Prop := fun r1 h2 n2 => ∃ (a : Unit) (s : Row), res = fok a s ∧ r1 = none ∧ h2 = HC m0 sh rr (va_up ww o s) so sc pl qo pn bm tg px fa hb ∧ n = n2
abbrev Q_X4_writeTable_8 (m0 : Mnt) (sh : Nat → Nat) (rr : Nat → Ras) (ww : Nat → Row) (o : Nat) (so : Nat) (sc : Src) (pl : Pal) (qo : Qoi) (pn : Pnm) (bm : Bmp) (tg : Tga) (px : Pcx) (fa : A) (hb : aH) (n : Nat) (k : Int32 → Row → Out Row Unit) : Prop := ∀ (v2 : Int32) (y : Row) (res : Out Row Unit), k v2 y = res → res ≠ fno → AW (fun _ _ => True) mX4_writeTable (rmD 2 0 0) 0 0 (P_X4_writeTable m0 sh rr ww o so sc pl qo pn bm tg px fa hb n res) (fun _ _ _ => False) 0 0 8 [(0, .ref 28), (1, .ref o), (2, .int v2)] [] (HC m0 sh rr (va_up ww o y) so sc pl qo pn bm tg px fa hb) n
def F_X4_writeTable_8 (pl : Pal) (k8 : Int32 → Row → Out Row Unit) (v2 : Int32) (y : Row) : Out Row Unit := if 256 ≤ v2 then (fok () y) else (fon (F_X3_get v2 pl) (fun z20 s20 => fon (F_X1_add (F_X10_redOf z20) y) (fun z29 s29 => fon (F_X1_add (F_X10_greenOf z20) s29) (fun z37 s37 => fon (F_X1_add (F_X10_blueOf z20) s37) (fun z45 s45 => k8 (v2 + 1) s45) (fun _ _ => fno)) (fun _ _ => fno)) (fun _ _ => fno)) (fun _ _ => fno))
set_option maxHeartbeats 1000000 in
set_option maxRecDepth 100000 in
theorem b_X4_writeTable_8 (m0 : Mnt) (sh : Nat → Nat) (rr : Nat → Ras) (ww : Nat → Row) (o : Nat) (so : Nat) (sc : Src) (pl : Pal) (qo : Qoi) (pn : Pnm) (bm : Bmp) (tg : Tga) (px : Pcx) (fa : A) (hb : aH) (n : Nat) (ho : isW o) (k8 : Int32 → Row → Out Row Unit) (hk8 : Q_X4_writeTable_8 m0 sh rr ww o so sc pl qo pn bm tg px fa hb n k8) : Q_X4_writeTable_8 m0 sh rr ww o so sc pl qo pn bm tg px fa hb n (F_X4_writeTable_8 pl k8) := by
  intro v2 y res hE hF
  unfold F_X4_writeTable_8 at hE
  refine aw_iload_n dX4_writeTable_8 rfl ?_
  refine aw_sipush (v := 256) dX4_writeTable_9 (by decide) ?_
  refine aw_icmp_ge (tgt := 54) dX4_writeTable_12 (by decide) (fun c12 => ?_) (fun c12 => ?_)
  · replace hE := fit hE c12
    exact aw_vret dX4_writeTable_54 rfl (Nat.zero_le _) (Nat.zero_le _) (Nat.zero_le _) (Nat.zero_le _) ⟨_, _, hE.symm, rfl, rfl, rfl⟩
  · replace hE := fif hE c12
    refine aw_aload_n dX4_writeTable_15 rfl ?_
    refine aw_getf (v := .ref 17) dX4_writeTable_16 flX4_15_3 at_pcx rfl ?_
    refine aw_iload_n dX4_writeTable_19 rfl ?_
    refine aw_callV dX4_writeTable_20 at_pal cvX4_176 rfl (kF_X3_get m0 sh rr (va_up ww o y) so sc pl qo pn bm tg px fa hb _  v2 (fon_ne hE hF)) rfl (Nat.le_of_ble_eq_true rfl) (by decide) (by decide) (by decide) (by decide) (fun _ _ _ hf => False.elim hf) (fun r20 h20 n20 hp20 => ?_)
    obtain ⟨z20, s20, e20, rfl, rfl, rfl⟩ := hp20
    replace hE := fon_ok e20 hE
    refine aw_istore_n (lv2 := [(3, _), (0, _), (1, _), (2, _)]) dX4_writeTable_23 (by decide) rfl ?_
    refine aw_aload_n dX4_writeTable_24 rfl ?_
    refine aw_iload_n dX4_writeTable_25 rfl ?_
    refine aw_callSN dX4_writeTable_26  csX4_177 rfl (kF_X10_redOf _ _ z20) rfl (Nat.le_of_ble_eq_true rfl) (by decide) (by decide) (by decide) (by decide)  (fun r26 h26 n26 hp26 => ?_)
    obtain ⟨rfl, rfl, rfl⟩ := hp26
    refine aw_callV dX4_writeTable_29 (at_row ho) cvX4_155 rfl (kF_X1_add m0 sh rr ww o y so sc pl qo pn bm tg px fa hb _ ho (F_X10_redOf z20) (fon_ne hE hF)) rfl (Nat.le_of_ble_eq_true rfl) (by decide) (by decide) (by decide) (by decide) (fun _ _ _ hf => False.elim hf) (fun r29 h29 n29 hp29 => ?_)
    obtain ⟨z29, s29, e29, rfl, rfl, rfl⟩ := hp29
    replace hE := fon_ok e29 hE
    refine aw_aload_n dX4_writeTable_32 rfl ?_
    refine aw_iload_n dX4_writeTable_33 rfl ?_
    refine aw_callSN dX4_writeTable_34  csX4_180 rfl (kF_X10_greenOf _ _ z20) rfl (Nat.le_of_ble_eq_true rfl) (by decide) (by decide) (by decide) (by decide)  (fun r34 h34 n34 hp34 => ?_)
    obtain ⟨rfl, rfl, rfl⟩ := hp34
    refine aw_callV dX4_writeTable_37 (at_row ho) cvX4_155 rfl (kF_X1_add m0 sh rr ww o s29 so sc pl qo pn bm tg px fa hb _ ho (F_X10_greenOf z20) (fon_ne hE hF)) rfl (Nat.le_of_ble_eq_true rfl) (by decide) (by decide) (by decide) (by decide) (fun _ _ _ hf => False.elim hf) (fun r37 h37 n37 hp37 => ?_)
    obtain ⟨z37, s37, e37, rfl, rfl, rfl⟩ := hp37
    replace hE := fon_ok e37 hE
    refine aw_aload_n dX4_writeTable_40 rfl ?_
    refine aw_iload_n dX4_writeTable_41 rfl ?_
    refine aw_callSN dX4_writeTable_42  csX4_183 rfl (kF_X10_blueOf _ _ z20) rfl (Nat.le_of_ble_eq_true rfl) (by decide) (by decide) (by decide) (by decide)  (fun r42 h42 n42 hp42 => ?_)
    obtain ⟨rfl, rfl, rfl⟩ := hp42
    refine aw_callV dX4_writeTable_45 (at_row ho) cvX4_155 rfl (kF_X1_add m0 sh rr ww o s37 so sc pl qo pn bm tg px fa hb _ ho (F_X10_blueOf z20) (fon_ne hE hF)) rfl (Nat.le_of_ble_eq_true rfl) (by decide) (by decide) (by decide) (by decide) (fun _ _ _ hf => False.elim hf) (fun r45 h45 n45 hp45 => ?_)
    obtain ⟨z45, s45, e45, rfl, rfl, rfl⟩ := hp45
    replace hE := fon_ok e45 hE
    refine aw_iinc (v := (v2 + 1)) (lv2 := [(2, _), (3, _), (0, _), (1, _)]) dX4_writeTable_48 rfl (incE (by decide)) (by decide) rfl ?_
    refine aw_goto (tgt := 8) dX4_writeTable_51 (by decide) ?_
    exact aw_lv _ (List.forall_mem_cons.mpr ⟨rfl, (List.forall_mem_cons.mpr ⟨rfl, (List.forall_mem_cons.mpr ⟨rfl, fun _ h => absurd h List.not_mem_nil⟩)⟩)⟩) (hk8 (v2 + 1) s45 _ hE hF)
def F_X4_writeTable (y : Row) (pl : Pal) : Out Row Unit := fon (F_X1_add 12 y) (fun z3 s3 => lp (fun _ _ => fno) (F_X4_writeTable_8 pl) FU (0 : Int32) s3) (fun _ _ => fno)
set_option maxHeartbeats 1000000 in
set_option maxRecDepth 100000 in
theorem kF_X4_writeTable (m0 : Mnt) (sh : Nat → Nat) (rr : Nat → Ras) (ww : Nat → Row) (o : Nat) (y : Row) (so : Nat) (sc : Src) (pl : Pal) (qo : Qoi) (pn : Pnm) (bm : Bmp) (tg : Tga) (px : Pcx) (fa : A) (hb : aH) (n : Nat) (ho : isW o)  (hF : F_X4_writeTable y pl ≠ fno) : AM mX4_writeTable 2 [.ref 28, .ref o] (HC m0 sh rr (va_up ww o y) so sc pl qo pn bm tg px fa hb) n 0 0 0 0 (P_X4_writeTable m0 sh rr ww o so sc pl qo pn bm tg px fa hb n (F_X4_writeTable y pl)) (fun _ _ _ => False) := by
  generalize hE : F_X4_writeTable y pl = res at hF ⊢
  refine aw_of (by decide +kernel) rfl (Nat.le_of_ble_eq_true rfl) ?_
  unfold F_X4_writeTable at hE
  refine aw_aload_n dX4_writeTable_0 rfl ?_
  refine aw_bipush (v := 12) dX4_writeTable_1 (by decide) ?_
  refine aw_callV dX4_writeTable_3 (at_row ho) cvX4_155 rfl (kF_X1_add m0 sh rr ww o y so sc pl qo pn bm tg px fa hb _ ho 12 (fon_ne hE hF)) rfl (Nat.le_of_ble_eq_true rfl) (by decide) (by decide) (by decide) (by decide) (fun _ _ _ hf => False.elim hf) (fun r3 h3 n3 hp3 => ?_)
  obtain ⟨z3, s3, e3, rfl, rfl, rfl⟩ := hp3
  replace hE := fon_ok e3 hE
  refine aw_iconst (v := 0) dX4_writeTable_6 (by decide) ?_
  refine aw_istore_n (lv2 := [(2, _), (0, _), (1, _)]) dX4_writeTable_7 (by decide) rfl ?_
  exact aw_lv _ (List.forall_mem_cons.mpr ⟨rfl, (List.forall_mem_cons.mpr ⟨rfl, (List.forall_mem_cons.mpr ⟨rfl, fun _ h => absurd h List.not_mem_nil⟩)⟩)⟩) (lp_ind (Q_X4_writeTable_8 m0 sh rr ww o so sc pl qo pn bm tg px fa hb n) (fun _ _ res hq hF => (hF hq.symm).elim) (fun k hk => b_X4_writeTable_8 m0 sh rr ww o so sc pl qo pn bm tg px fa hb n ho  k hk) FU (0 : Int32) s3 _ hE hF)
def P_X1_addDecimal (m0 : Mnt) (sh : Nat → Nat) (rr : Nat → Ras) (ww : Nat → Row) (o : Nat) (so : Nat) (sc : Src) (pl : Pal) (qo : Qoi) (pn : Pnm) (bm : Bmp) (tg : Tga) (px : Pcx) (fa : A) (hb : aH) (n : Nat) (res : Out Row Unit) : Option Value → aH → Nat → Prop := fun r1 h2 n2 => ∃ (a : Unit) (s : Row), res = fok a s ∧ r1 = none ∧ h2 = HC m0 sh rr (va_up ww o s) so sc pl qo pn bm tg px fa hb ∧ n = n2
abbrev Q_X1_addDecimal_19 (m0 : Mnt) (sh : Nat → Nat) (rr : Nat → Ras) (ww : Nat → Row) (o : Nat) (so : Nat) (sc : Src) (pl : Pal) (qo : Qoi) (pn : Pnm) (bm : Bmp) (tg : Tga) (px : Pcx) (fa : A) (hb : aH) (n : Nat) (k : Int32 → Row → Out Row Unit) : Prop := ∀ (v1 : Int32) (y : Row) (res : Out Row Unit), k v1 y = res → res ≠ fno → AW (fun _ _ => True) mX1_addDecimal (rmD 2 0 0) 0 0 (P_X1_addDecimal m0 sh rr ww o so sc pl qo pn bm tg px fa hb n res) (fun _ _ _ => False) 0 0 19 [(0, .ref o), (1, .int v1)] [] (HC m0 sh rr (va_up ww o y) so sc pl qo pn bm tg px fa hb) n
abbrev Q_X1_addDecimal_39 (m0 : Mnt) (sh : Nat → Nat) (rr : Nat → Ras) (ww : Nat → Row) (o : Nat) (so : Nat) (sc : Src) (pl : Pal) (qo : Qoi) (pn : Pnm) (bm : Bmp) (tg : Tga) (px : Pcx) (fa : A) (hb : aH) (n : Nat) (k : Int32 → Row → Out Row Unit) : Prop := ∀ (v1 : Int32) (y : Row) (res : Out Row Unit), k v1 y = res → res ≠ fno → AW (fun _ _ => True) mX1_addDecimal (rmD 2 0 0) 0 0 (P_X1_addDecimal m0 sh rr ww o so sc pl qo pn bm tg px fa hb n res) (fun _ _ _ => False) 0 0 39 [(0, .ref o), (1, .int v1)] [] (HC m0 sh rr (va_up ww o y) so sc pl qo pn bm tg px fa hb) n
abbrev Q_X1_addDecimal_59 (m0 : Mnt) (sh : Nat → Nat) (rr : Nat → Ras) (ww : Nat → Row) (o : Nat) (so : Nat) (sc : Src) (pl : Pal) (qo : Qoi) (pn : Pnm) (bm : Bmp) (tg : Tga) (px : Pcx) (fa : A) (hb : aH) (n : Nat) (k : Int32 → Row → Out Row Unit) : Prop := ∀ (v1 : Int32) (y : Row) (res : Out Row Unit), k v1 y = res → res ≠ fno → AW (fun _ _ => True) mX1_addDecimal (rmD 2 0 0) 0 0 (P_X1_addDecimal m0 sh rr ww o so sc pl qo pn bm tg px fa hb n res) (fun _ _ _ => False) 0 0 59 [(0, .ref o), (1, .int v1)] [] (HC m0 sh rr (va_up ww o y) so sc pl qo pn bm tg px fa hb) n
def F_X1_addDecimal_59   (v1 : Int32) (y : Row) : Out Row Unit := fon (F_X1_add (48 + (v1 - v1 / 10 * 10)) y) (fun z67 s67 => fok () s67) (fun _ _ => fno)
set_option maxHeartbeats 1000000 in
set_option maxRecDepth 100000 in
theorem b_X1_addDecimal_59 (m0 : Mnt) (sh : Nat → Nat) (rr : Nat → Ras) (ww : Nat → Row) (o : Nat) (so : Nat) (sc : Src) (pl : Pal) (qo : Qoi) (pn : Pnm) (bm : Bmp) (tg : Tga) (px : Pcx) (fa : A) (hb : aH) (n : Nat) (ho : isW o)  : Q_X1_addDecimal_59 m0 sh rr ww o so sc pl qo pn bm tg px fa hb n (F_X1_addDecimal_59 ) := by
  intro v1 y res hE hF
  unfold F_X1_addDecimal_59 at hE
  refine aw_aload_n dX1_addDecimal_59 rfl ?_
  refine aw_bipush (v := 48) dX1_addDecimal_60 (by decide) ?_
  refine aw_iload_n dX1_addDecimal_62 rfl ?_
  refine aw_bipush (v := 10) dX1_addDecimal_63 (by decide) ?_
  refine aw_irem dX1_addDecimal_65 (by decide) ?_
  refine aw_iadd dX1_addDecimal_66 ?_
  refine aw_callV dX1_addDecimal_67 (at_row ho) cvX1_20 rfl (kF_X1_add m0 sh rr ww o y so sc pl qo pn bm tg px fa hb _ ho (48 + (v1 - v1 / 10 * 10)) (fon_ne hE hF)) rfl (Nat.le_of_ble_eq_true rfl) (by decide) (by decide) (by decide) (by decide) (fun _ _ _ hf => False.elim hf) (fun r67 h67 n67 hp67 => ?_)
  obtain ⟨z67, s67, e67, rfl, rfl, rfl⟩ := hp67
  replace hE := fon_ok e67 hE
  exact aw_vret dX1_addDecimal_70 rfl (Nat.zero_le _) (Nat.zero_le _) (Nat.zero_le _) (Nat.zero_le _) ⟨_, _, hE.symm, rfl, rfl, rfl⟩
def F_X1_addDecimal_39   (v1 : Int32) (y : Row) : Out Row Unit := if v1 < 10 then (F_X1_addDecimal_59  v1 y) else (fon (F_X1_add (48 + ((v1 / 10) - (v1 / 10) / 10 * 10)) y) (fun z56 s56 => F_X1_addDecimal_59  v1 s56) (fun _ _ => fno))
set_option maxHeartbeats 1000000 in
set_option maxRecDepth 100000 in
theorem b_X1_addDecimal_39 (m0 : Mnt) (sh : Nat → Nat) (rr : Nat → Ras) (ww : Nat → Row) (o : Nat) (so : Nat) (sc : Src) (pl : Pal) (qo : Qoi) (pn : Pnm) (bm : Bmp) (tg : Tga) (px : Pcx) (fa : A) (hb : aH) (n : Nat) (ho : isW o)  : Q_X1_addDecimal_39 m0 sh rr ww o so sc pl qo pn bm tg px fa hb n (F_X1_addDecimal_39 ) := by
  intro v1 y res hE hF
  unfold F_X1_addDecimal_39 at hE
  refine aw_iload_n dX1_addDecimal_39 rfl ?_
  refine aw_bipush (v := 10) dX1_addDecimal_40 (by decide) ?_
  refine aw_icmp_lt (tgt := 59) dX1_addDecimal_42 (by decide) (fun c42 => ?_) (fun c42 => ?_)
  · replace hE := fit hE c42
    exact aw_lv _ (List.forall_mem_cons.mpr ⟨rfl, (List.forall_mem_cons.mpr ⟨rfl, fun _ h => absurd h List.not_mem_nil⟩)⟩) (b_X1_addDecimal_59 m0 sh rr ww o so sc pl qo pn bm tg px fa hb n ho  v1 y _ hE hF)
  · replace hE := fif hE c42
    refine aw_aload_n dX1_addDecimal_45 rfl ?_
    refine aw_bipush (v := 48) dX1_addDecimal_46 (by decide) ?_
    refine aw_iload_n dX1_addDecimal_48 rfl ?_
    refine aw_bipush (v := 10) dX1_addDecimal_49 (by decide) ?_
    refine aw_idiv dX1_addDecimal_51 (by decide) ?_
    refine aw_bipush (v := 10) dX1_addDecimal_52 (by decide) ?_
    refine aw_irem dX1_addDecimal_54 (by decide) ?_
    refine aw_iadd dX1_addDecimal_55 ?_
    refine aw_callV dX1_addDecimal_56 (at_row ho) cvX1_20 rfl (kF_X1_add m0 sh rr ww o y so sc pl qo pn bm tg px fa hb _ ho (48 + ((v1 / 10) - (v1 / 10) / 10 * 10)) (fon_ne hE hF)) rfl (Nat.le_of_ble_eq_true rfl) (by decide) (by decide) (by decide) (by decide) (fun _ _ _ hf => False.elim hf) (fun r56 h56 n56 hp56 => ?_)
    obtain ⟨z56, s56, e56, rfl, rfl, rfl⟩ := hp56
    replace hE := fon_ok e56 hE
    exact aw_lv _ (List.forall_mem_cons.mpr ⟨rfl, (List.forall_mem_cons.mpr ⟨rfl, fun _ h => absurd h List.not_mem_nil⟩)⟩) (b_X1_addDecimal_59 m0 sh rr ww o so sc pl qo pn bm tg px fa hb n ho  v1 s56 _ hE hF)
def F_X1_addDecimal_19   (v1 : Int32) (y : Row) : Out Row Unit := if v1 < 100 then (F_X1_addDecimal_39  v1 y) else (fon (F_X1_add (48 + ((v1 / 100) - (v1 / 100) / 10 * 10)) y) (fun z36 s36 => F_X1_addDecimal_39  v1 s36) (fun _ _ => fno))
set_option maxHeartbeats 1000000 in
set_option maxRecDepth 100000 in
theorem b_X1_addDecimal_19 (m0 : Mnt) (sh : Nat → Nat) (rr : Nat → Ras) (ww : Nat → Row) (o : Nat) (so : Nat) (sc : Src) (pl : Pal) (qo : Qoi) (pn : Pnm) (bm : Bmp) (tg : Tga) (px : Pcx) (fa : A) (hb : aH) (n : Nat) (ho : isW o)  : Q_X1_addDecimal_19 m0 sh rr ww o so sc pl qo pn bm tg px fa hb n (F_X1_addDecimal_19 ) := by
  intro v1 y res hE hF
  unfold F_X1_addDecimal_19 at hE
  refine aw_iload_n dX1_addDecimal_19 rfl ?_
  refine aw_bipush (v := 100) dX1_addDecimal_20 (by decide) ?_
  refine aw_icmp_lt (tgt := 39) dX1_addDecimal_22 (by decide) (fun c22 => ?_) (fun c22 => ?_)
  · replace hE := fit hE c22
    exact aw_lv _ (List.forall_mem_cons.mpr ⟨rfl, (List.forall_mem_cons.mpr ⟨rfl, fun _ h => absurd h List.not_mem_nil⟩)⟩) (b_X1_addDecimal_39 m0 sh rr ww o so sc pl qo pn bm tg px fa hb n ho  v1 y _ hE hF)
  · replace hE := fif hE c22
    refine aw_aload_n dX1_addDecimal_25 rfl ?_
    refine aw_bipush (v := 48) dX1_addDecimal_26 (by decide) ?_
    refine aw_iload_n dX1_addDecimal_28 rfl ?_
    refine aw_bipush (v := 100) dX1_addDecimal_29 (by decide) ?_
    refine aw_idiv dX1_addDecimal_31 (by decide) ?_
    refine aw_bipush (v := 10) dX1_addDecimal_32 (by decide) ?_
    refine aw_irem dX1_addDecimal_34 (by decide) ?_
    refine aw_iadd dX1_addDecimal_35 ?_
    refine aw_callV dX1_addDecimal_36 (at_row ho) cvX1_20 rfl (kF_X1_add m0 sh rr ww o y so sc pl qo pn bm tg px fa hb _ ho (48 + ((v1 / 100) - (v1 / 100) / 10 * 10)) (fon_ne hE hF)) rfl (Nat.le_of_ble_eq_true rfl) (by decide) (by decide) (by decide) (by decide) (fun _ _ _ hf => False.elim hf) (fun r36 h36 n36 hp36 => ?_)
    obtain ⟨z36, s36, e36, rfl, rfl, rfl⟩ := hp36
    replace hE := fon_ok e36 hE
    exact aw_lv _ (List.forall_mem_cons.mpr ⟨rfl, (List.forall_mem_cons.mpr ⟨rfl, fun _ h => absurd h List.not_mem_nil⟩)⟩) (b_X1_addDecimal_39 m0 sh rr ww o so sc pl qo pn bm tg px fa hb n ho  v1 s36 _ hE hF)
def F_X1_addDecimal (a1 : Int32) (y : Row) : Out Row Unit := if a1 < 1000 then (F_X1_addDecimal_19  a1 y) else (fon (F_X1_add (48 + (a1 / 1000)) y) (fun z16 s16 => F_X1_addDecimal_19  a1 s16) (fun _ _ => fno))
set_option maxHeartbeats 1000000 in
set_option maxRecDepth 100000 in
theorem kF_X1_addDecimal (m0 : Mnt) (sh : Nat → Nat) (rr : Nat → Ras) (ww : Nat → Row) (o : Nat) (y : Row) (so : Nat) (sc : Src) (pl : Pal) (qo : Qoi) (pn : Pnm) (bm : Bmp) (tg : Tga) (px : Pcx) (fa : A) (hb : aH) (n : Nat) (ho : isW o) (a1 : Int32) (hF : F_X1_addDecimal a1 y ≠ fno) : AM mX1_addDecimal 2 [.ref o, .int a1] (HC m0 sh rr (va_up ww o y) so sc pl qo pn bm tg px fa hb) n 0 0 0 0 (P_X1_addDecimal m0 sh rr ww o so sc pl qo pn bm tg px fa hb n (F_X1_addDecimal a1 y)) (fun _ _ _ => False) := by
  generalize hE : F_X1_addDecimal a1 y = res at hF ⊢
  refine aw_of (by decide +kernel) rfl (Nat.le_of_ble_eq_true rfl) ?_
  unfold F_X1_addDecimal at hE
  refine aw_iload_n dX1_addDecimal_0 rfl ?_
  refine aw_sipush (v := 1000) dX1_addDecimal_1 (by decide) ?_
  refine aw_icmp_lt (tgt := 19) dX1_addDecimal_4 (by decide) (fun c4 => ?_) (fun c4 => ?_)
  · replace hE := fit hE c4
    exact aw_lv _ (List.forall_mem_cons.mpr ⟨rfl, (List.forall_mem_cons.mpr ⟨rfl, fun _ h => absurd h List.not_mem_nil⟩)⟩) (b_X1_addDecimal_19 m0 sh rr ww o so sc pl qo pn bm tg px fa hb n ho  a1 y _ hE hF)
  · replace hE := fif hE c4
    refine aw_aload_n dX1_addDecimal_7 rfl ?_
    refine aw_bipush (v := 48) dX1_addDecimal_8 (by decide) ?_
    refine aw_iload_n dX1_addDecimal_10 rfl ?_
    refine aw_sipush (v := 1000) dX1_addDecimal_11 (by decide) ?_
    refine aw_idiv dX1_addDecimal_14 (by decide) ?_
    refine aw_iadd dX1_addDecimal_15 ?_
    refine aw_callV dX1_addDecimal_16 (at_row ho) cvX1_20 rfl (kF_X1_add m0 sh rr ww o y so sc pl qo pn bm tg px fa hb _ ho (48 + (a1 / 1000)) (fon_ne hE hF)) rfl (Nat.le_of_ble_eq_true rfl) (by decide) (by decide) (by decide) (by decide) (fun _ _ _ hf => False.elim hf) (fun r16 h16 n16 hp16 => ?_)
    obtain ⟨z16, s16, e16, rfl, rfl, rfl⟩ := hp16
    replace hE := fon_ok e16 hE
    exact aw_lv _ (List.forall_mem_cons.mpr ⟨rfl, (List.forall_mem_cons.mpr ⟨rfl, fun _ h => absurd h List.not_mem_nil⟩)⟩) (b_X1_addDecimal_19 m0 sh rr ww o so sc pl qo pn bm tg px fa hb n ho  a1 s16 _ hE hF)
def P_X5_writeSigns (m0 : Mnt) (sh : Nat → Nat) (rr : Nat → Ras) (r : Nat) (x : Ras) (ww : Nat → Row) (o : Nat) (so : Nat) (sc : Src) (pl : Pal) (qo : Qoi) (pn : Pnm) (bm : Bmp) (tg : Tga) (px : Pcx) (fa : A) (hb : aH) (n : Nat) (res : Out Row Unit) : Option Value → aH → Nat → Prop := fun r1 h2 n2 => ∃ (a : Unit) (s : Row), res = fok a s ∧ r1 = none ∧ h2 = HC m0 sh (va_up rr r x) (va_up ww o s) so sc pl qo pn bm tg px fa hb ∧ n = n2
abbrev Q_X5_writeSigns_4 (m0 : Mnt) (sh : Nat → Nat) (rr : Nat → Ras) (r : Nat) (x : Ras) (ww : Nat → Row) (o : Nat) (so : Nat) (sc : Src) (pl : Pal) (qo : Qoi) (pn : Pnm) (bm : Bmp) (tg : Tga) (px : Pcx) (fa : A) (hb : aH) (n : Nat) (k : Int32 → Int32 → Row → Out Row Unit) : Prop := ∀ (v2 : Int32) (v3 : Int32) (y : Row) (res : Out Row Unit), k v2 v3 y = res → res ≠ fno → AW (fun _ _ => True) mX5_writeSigns (rmD 2 0 0) 0 0 (P_X5_writeSigns m0 sh rr r x ww o so sc pl qo pn bm tg px fa hb n res) (fun _ _ _ => False) 0 0 4 [(0, .ref r), (1, .ref o), (2, .int v2), (3, .int v3)] [] (HC m0 sh (va_up rr r x) (va_up ww o y) so sc pl qo pn bm tg px fa hb) n
abbrev Q_X5_writeSigns_15 (m0 : Mnt) (sh : Nat → Nat) (rr : Nat → Ras) (r : Nat) (x : Ras) (ww : Nat → Row) (o : Nat) (so : Nat) (sc : Src) (pl : Pal) (qo : Qoi) (pn : Pnm) (bm : Bmp) (tg : Tga) (px : Pcx) (fa : A) (hb : aH) (n : Nat) (k : Int32 → Int32 → Int32 → Row → Out Row Unit) : Prop := ∀ (v2 : Int32) (v3 : Int32) (v4 : Int32) (y : Row) (res : Out Row Unit), k v2 v3 v4 y = res → res ≠ fno → AW (fun _ _ => True) mX5_writeSigns (rmD 2 0 0) 0 0 (P_X5_writeSigns m0 sh rr r x ww o so sc pl qo pn bm tg px fa hb n res) (fun _ _ _ => False) 0 0 15 [(0, .ref r), (1, .ref o), (2, .int v2), (3, .int v3), (4, .int v4)] [] (HC m0 sh (va_up rr r x) (va_up ww o y) so sc pl qo pn bm tg px fa hb) n
abbrev Q_X5_writeSigns_43 (m0 : Mnt) (sh : Nat → Nat) (rr : Nat → Ras) (r : Nat) (x : Ras) (ww : Nat → Row) (o : Nat) (so : Nat) (sc : Src) (pl : Pal) (qo : Qoi) (pn : Pnm) (bm : Bmp) (tg : Tga) (px : Pcx) (fa : A) (hb : aH) (n : Nat) (k : Int32 → Int32 → Int32 → Int32 → Row → Out Row Unit) : Prop := ∀ (v2 : Int32) (v3 : Int32) (v4 : Int32) (t0 : Int32) (y : Row) (res : Out Row Unit), k v2 v3 v4 t0 y = res → res ≠ fno → AW (fun _ _ => True) mX5_writeSigns (rmD 2 0 0) 0 0 (P_X5_writeSigns m0 sh rr r x ww o so sc pl qo pn bm tg px fa hb n res) (fun _ _ _ => False) 0 0 43 [(0, .ref r), (1, .ref o), (2, .int v2), (3, .int v3), (4, .int v4)] [.int t0, .ref o] (HC m0 sh (va_up rr r x) (va_up ww o y) so sc pl qo pn bm tg px fa hb) n
abbrev Q_X5_writeSigns_66 (m0 : Mnt) (sh : Nat → Nat) (rr : Nat → Ras) (r : Nat) (x : Ras) (ww : Nat → Row) (o : Nat) (so : Nat) (sc : Src) (pl : Pal) (qo : Qoi) (pn : Pnm) (bm : Bmp) (tg : Tga) (px : Pcx) (fa : A) (hb : aH) (n : Nat) (k : Int32 → Int32 → Int32 → Row → Out Row Unit) : Prop := ∀ (v2 : Int32) (v3 : Int32) (v4 : Int32) (y : Row) (res : Out Row Unit), k v2 v3 v4 y = res → res ≠ fno → AW (fun _ _ => True) mX5_writeSigns (rmD 2 0 0) 0 0 (P_X5_writeSigns m0 sh rr r x ww o so sc pl qo pn bm tg px fa hb n res) (fun _ _ _ => False) 0 0 66 [(0, .ref r), (1, .ref o), (2, .int v2), (3, .int v3), (4, .int v4)] [] (HC m0 sh (va_up rr r x) (va_up ww o y) so sc pl qo pn bm tg px fa hb) n
abbrev Q_X5_writeSigns_72 (m0 : Mnt) (sh : Nat → Nat) (rr : Nat → Ras) (r : Nat) (x : Ras) (ww : Nat → Row) (o : Nat) (so : Nat) (sc : Src) (pl : Pal) (qo : Qoi) (pn : Pnm) (bm : Bmp) (tg : Tga) (px : Pcx) (fa : A) (hb : aH) (n : Nat) (k : Int32 → Int32 → Int32 → Row → Out Row Unit) : Prop := ∀ (v2 : Int32) (v3 : Int32) (v4 : Int32) (y : Row) (res : Out Row Unit), k v2 v3 v4 y = res → res ≠ fno → AW (fun _ _ => True) mX5_writeSigns (rmD 2 0 0) 0 0 (P_X5_writeSigns m0 sh rr r x ww o so sc pl qo pn bm tg px fa hb n res) (fun _ _ _ => False) 0 0 72 [(0, .ref r), (1, .ref o), (2, .int v2), (3, .int v3), (4, .int v4)] [] (HC m0 sh (va_up rr r x) (va_up ww o y) so sc pl qo pn bm tg px fa hb) n
def F_X5_writeSigns_72 (x : Ras) (k4 : Int32 → Int32 → Row → Out Row Unit) (k15 : Int32 → Int32 → Int32 → Row → Out Row Unit) (v2 : Int32) (v3 : Int32) (v4 : Int32) (y : Row) : Out Row Unit := k15 v2 v3 (v4 + 1) y
set_option maxHeartbeats 1000000 in
set_option maxRecDepth 100000 in
theorem b_X5_writeSigns_72 (m0 : Mnt) (sh : Nat → Nat) (rr : Nat → Ras) (r : Nat) (x : Ras) (ww : Nat → Row) (o : Nat) (so : Nat) (sc : Src) (pl : Pal) (qo : Qoi) (pn : Pnm) (bm : Bmp) (tg : Tga) (px : Pcx) (fa : A) (hb : aH) (n : Nat) (hr : isR r) (ho : isW o) (k4 : Int32 → Int32 → Row → Out Row Unit) (hk4 : Q_X5_writeSigns_4 m0 sh rr r x ww o so sc pl qo pn bm tg px fa hb n k4) (k15 : Int32 → Int32 → Int32 → Row → Out Row Unit) (hk15 : Q_X5_writeSigns_15 m0 sh rr r x ww o so sc pl qo pn bm tg px fa hb n k15) : Q_X5_writeSigns_72 m0 sh rr r x ww o so sc pl qo pn bm tg px fa hb n (F_X5_writeSigns_72 x k4 k15) := by
  intro v2 v3 v4 y res hE hF
  unfold F_X5_writeSigns_72 at hE
  refine aw_iinc (v := (v4 + 1)) (lv2 := [(4, _), (0, _), (1, _), (2, _), (3, _)]) dX5_writeSigns_72 rfl (incE (by decide)) (by decide) rfl ?_
  refine aw_goto (tgt := 15) dX5_writeSigns_75 (by decide) ?_
  exact aw_lv _ (List.forall_mem_cons.mpr ⟨rfl, (List.forall_mem_cons.mpr ⟨rfl, (List.forall_mem_cons.mpr ⟨rfl, (List.forall_mem_cons.mpr ⟨rfl, (List.forall_mem_cons.mpr ⟨rfl, fun _ h => absurd h List.not_mem_nil⟩)⟩)⟩)⟩)⟩) (hk15 v2 v3 (v4 + 1) y _ hE hF)
def F_X5_writeSigns_66 (x : Ras) (k4 : Int32 → Int32 → Row → Out Row Unit) (k15 : Int32 → Int32 → Int32 → Row → Out Row Unit) (v2 : Int32) (v3 : Int32) (v4 : Int32) (y : Row) : Out Row Unit := fon (F_X1_add 10 y) (fun z69 s69 => F_X5_writeSigns_72 x k4 k15 v2 v3 v4 s69) (fun _ _ => fno)
set_option maxHeartbeats 1000000 in
set_option maxRecDepth 100000 in
theorem b_X5_writeSigns_66 (m0 : Mnt) (sh : Nat → Nat) (rr : Nat → Ras) (r : Nat) (x : Ras) (ww : Nat → Row) (o : Nat) (so : Nat) (sc : Src) (pl : Pal) (qo : Qoi) (pn : Pnm) (bm : Bmp) (tg : Tga) (px : Pcx) (fa : A) (hb : aH) (n : Nat) (hr : isR r) (ho : isW o) (k4 : Int32 → Int32 → Row → Out Row Unit) (hk4 : Q_X5_writeSigns_4 m0 sh rr r x ww o so sc pl qo pn bm tg px fa hb n k4) (k15 : Int32 → Int32 → Int32 → Row → Out Row Unit) (hk15 : Q_X5_writeSigns_15 m0 sh rr r x ww o so sc pl qo pn bm tg px fa hb n k15) : Q_X5_writeSigns_66 m0 sh rr r x ww o so sc pl qo pn bm tg px fa hb n (F_X5_writeSigns_66 x k4 k15) := by
  intro v2 v3 v4 y res hE hF
  unfold F_X5_writeSigns_66 at hE
  refine aw_aload_n dX5_writeSigns_66 rfl ?_
  refine aw_bipush (v := 10) dX5_writeSigns_67 (by decide) ?_
  refine aw_callV dX5_writeSigns_69 (at_row ho) cvX5_124 rfl (kF_X1_add m0 sh (va_up rr r x) ww o y so sc pl qo pn bm tg px fa hb _ ho 10 (fon_ne hE hF)) rfl (Nat.le_of_ble_eq_true rfl) (by decide) (by decide) (by decide) (by decide) (fun _ _ _ hf => False.elim hf) (fun r69 h69 n69 hp69 => ?_)
  obtain ⟨z69, s69, e69, rfl, rfl, rfl⟩ := hp69
  replace hE := fon_ok e69 hE
  exact aw_lv _ (List.forall_mem_cons.mpr ⟨rfl, (List.forall_mem_cons.mpr ⟨rfl, (List.forall_mem_cons.mpr ⟨rfl, (List.forall_mem_cons.mpr ⟨rfl, (List.forall_mem_cons.mpr ⟨rfl, fun _ h => absurd h List.not_mem_nil⟩)⟩)⟩)⟩)⟩) (b_X5_writeSigns_72 m0 sh rr r x ww o so sc pl qo pn bm tg px fa hb n hr ho k4 hk4 k15 hk15 v2 v3 v4 s69 _ hE hF)
def F_X5_writeSigns_43 (x : Ras) (k4 : Int32 → Int32 → Row → Out Row Unit) (k15 : Int32 → Int32 → Int32 → Row → Out Row Unit) (v2 : Int32) (v3 : Int32) (v4 : Int32) (t0 : Int32) (y : Row) : Out Row Unit := fon (F_X1_add t0 y) (fun z43 s43 => if (v4 - v4 / 70 * 70) = 0 then (F_X5_writeSigns_66 x k4 k15 (v2 + 1) v3 v4 s43) else (if v4 = (x_w x) then (F_X5_writeSigns_66 x k4 k15 (v2 + 1) v3 v4 s43) else (F_X5_writeSigns_72 x k4 k15 (v2 + 1) v3 v4 s43))) (fun _ _ => fno)
set_option maxHeartbeats 1000000 in
set_option maxRecDepth 100000 in
theorem b_X5_writeSigns_43 (m0 : Mnt) (sh : Nat → Nat) (rr : Nat → Ras) (r : Nat) (x : Ras) (ww : Nat → Row) (o : Nat) (so : Nat) (sc : Src) (pl : Pal) (qo : Qoi) (pn : Pnm) (bm : Bmp) (tg : Tga) (px : Pcx) (fa : A) (hb : aH) (n : Nat) (hr : isR r) (ho : isW o) (k4 : Int32 → Int32 → Row → Out Row Unit) (hk4 : Q_X5_writeSigns_4 m0 sh rr r x ww o so sc pl qo pn bm tg px fa hb n k4) (k15 : Int32 → Int32 → Int32 → Row → Out Row Unit) (hk15 : Q_X5_writeSigns_15 m0 sh rr r x ww o so sc pl qo pn bm tg px fa hb n k15) : Q_X5_writeSigns_43 m0 sh rr r x ww o so sc pl qo pn bm tg px fa hb n (F_X5_writeSigns_43 x k4 k15) := by
  intro v2 v3 v4 t0 y res hE hF
  unfold F_X5_writeSigns_43 at hE
  refine aw_callV dX5_writeSigns_43 (at_row ho) cvX5_124 rfl (kF_X1_add m0 sh (va_up rr r x) ww o y so sc pl qo pn bm tg px fa hb _ ho t0 (fon_ne hE hF)) rfl (Nat.le_of_ble_eq_true rfl) (by decide) (by decide) (by decide) (by decide) (fun _ _ _ hf => False.elim hf) (fun r43 h43 n43 hp43 => ?_)
  obtain ⟨z43, s43, e43, rfl, rfl, rfl⟩ := hp43
  replace hE := fon_ok e43 hE
  refine aw_iinc (v := (v2 + 1)) (lv2 := [(2, _), (0, _), (1, _), (3, _), (4, _)]) dX5_writeSigns_46 rfl (incE (by decide)) (by decide) rfl ?_
  refine aw_iload dX5_writeSigns_49 rfl ?_
  refine aw_bipush (v := 70) dX5_writeSigns_51 (by decide) ?_
  refine aw_irem dX5_writeSigns_53 (by decide) ?_
  refine aw_if_eq (tgt := 66) dX5_writeSigns_54 (by decide) (fun c54 => ?_) (fun c54 => ?_)
  · replace hE := fit hE c54
    exact aw_lv _ (List.forall_mem_cons.mpr ⟨rfl, (List.forall_mem_cons.mpr ⟨rfl, (List.forall_mem_cons.mpr ⟨rfl, (List.forall_mem_cons.mpr ⟨rfl, (List.forall_mem_cons.mpr ⟨rfl, fun _ h => absurd h List.not_mem_nil⟩)⟩)⟩)⟩)⟩) (b_X5_writeSigns_66 m0 sh rr r x ww o so sc pl qo pn bm tg px fa hb n hr ho k4 hk4 k15 hk15 (v2 + 1) v3 v4 s43 _ hE hF)
  · replace hE := fif hE c54
    refine aw_iload dX5_writeSigns_57 rfl ?_
    refine aw_aload_n dX5_writeSigns_59 rfl ?_
    refine aw_getf (v := .int (x_w x)) dX5_writeSigns_60 flX5_114_6 (at_ras hr) rfl ?_
    refine aw_icmp_ne (tgt := 72) dX5_writeSigns_63 (by decide) (fun c63 => ?_) (fun c63 => ?_)
    · replace hE := fif hE c63
      exact aw_lv _ (List.forall_mem_cons.mpr ⟨rfl, (List.forall_mem_cons.mpr ⟨rfl, (List.forall_mem_cons.mpr ⟨rfl, (List.forall_mem_cons.mpr ⟨rfl, (List.forall_mem_cons.mpr ⟨rfl, fun _ h => absurd h List.not_mem_nil⟩)⟩)⟩)⟩)⟩) (b_X5_writeSigns_72 m0 sh rr r x ww o so sc pl qo pn bm tg px fa hb n hr ho k4 hk4 k15 hk15 (v2 + 1) v3 v4 s43 _ hE hF)
    · replace hE := fit hE c63
      exact aw_lv _ (List.forall_mem_cons.mpr ⟨rfl, (List.forall_mem_cons.mpr ⟨rfl, (List.forall_mem_cons.mpr ⟨rfl, (List.forall_mem_cons.mpr ⟨rfl, (List.forall_mem_cons.mpr ⟨rfl, fun _ h => absurd h List.not_mem_nil⟩)⟩)⟩)⟩)⟩) (b_X5_writeSigns_66 m0 sh rr r x ww o so sc pl qo pn bm tg px fa hb n hr ho k4 hk4 k15 hk15 (v2 + 1) v3 v4 s43 _ hE hF)
def F_X5_writeSigns_15 (x : Ras) (k4 : Int32 → Int32 → Row → Out Row Unit) (k15 : Int32 → Int32 → Int32 → Row → Out Row Unit) (v2 : Int32) (v3 : Int32) (v4 : Int32) (y : Row) : Out Row Unit := if (x_w x) < v4 then (k4 v2 (v3 + 1) y) else (fon (F_X7_get v2 x) (fun z27 s27 => if z27 = 255 then (F_X5_writeSigns_43 x k4 k15 v2 v3 v4 (49 : Int32) y) else (F_X5_writeSigns_43 x k4 k15 v2 v3 v4 (48 : Int32) y)) (fun _ _ => fno))
set_option maxHeartbeats 1000000 in
set_option maxRecDepth 100000 in
theorem b_X5_writeSigns_15 (m0 : Mnt) (sh : Nat → Nat) (rr : Nat → Ras) (r : Nat) (x : Ras) (ww : Nat → Row) (o : Nat) (so : Nat) (sc : Src) (pl : Pal) (qo : Qoi) (pn : Pnm) (bm : Bmp) (tg : Tga) (px : Pcx) (fa : A) (hb : aH) (n : Nat) (hr : isR r) (ho : isW o) (k4 : Int32 → Int32 → Row → Out Row Unit) (hk4 : Q_X5_writeSigns_4 m0 sh rr r x ww o so sc pl qo pn bm tg px fa hb n k4) (k15 : Int32 → Int32 → Int32 → Row → Out Row Unit) (hk15 : Q_X5_writeSigns_15 m0 sh rr r x ww o so sc pl qo pn bm tg px fa hb n k15) : Q_X5_writeSigns_15 m0 sh rr r x ww o so sc pl qo pn bm tg px fa hb n (F_X5_writeSigns_15 x k4 k15) := by
  intro v2 v3 v4 y res hE hF
  unfold F_X5_writeSigns_15 at hE
  refine aw_iload dX5_writeSigns_15 rfl ?_
  refine aw_aload_n dX5_writeSigns_17 rfl ?_
  refine aw_getf (v := .int (x_w x)) dX5_writeSigns_18 flX5_114_6 (at_ras hr) rfl ?_
  refine aw_icmp_gt (tgt := 78) dX5_writeSigns_21 (by decide) (fun c21 => ?_) (fun c21 => ?_)
  · replace hE := fit hE c21
    refine aw_iinc (v := (v3 + 1)) (lv2 := [(3, _), (0, _), (1, _), (2, _), (4, _)]) dX5_writeSigns_78 rfl (incE (by decide)) (by decide) rfl ?_
    refine aw_goto (tgt := 4) dX5_writeSigns_81 (by decide) ?_
    exact aw_lv _ (List.forall_mem_cons.mpr ⟨rfl, (List.forall_mem_cons.mpr ⟨rfl, (List.forall_mem_cons.mpr ⟨rfl, (List.forall_mem_cons.mpr ⟨rfl, fun _ h => absurd h List.not_mem_nil⟩)⟩)⟩)⟩) (hk4 v2 (v3 + 1) y _ hE hF)
  · replace hE := fif hE c21
    refine aw_aload_n dX5_writeSigns_24 rfl ?_
    refine aw_aload_n dX5_writeSigns_25 rfl ?_
    refine aw_iload_n dX5_writeSigns_26 rfl ?_
    refine aw_callV dX5_writeSigns_27 (at_ras hr) cvX5_143 rfl (kF_X7_get m0 sh rr r x (va_up ww o y) so sc pl qo pn bm tg px fa hb _ hr v2 (fon_ne hE hF)) rfl (Nat.le_of_ble_eq_true rfl) (by decide) (by decide) (by decide) (by decide) (fun _ _ _ hf => False.elim hf) (fun r27 h27 n27 hp27 => ?_)
    obtain ⟨z27, s27, e27, rfl, rfl, rfl⟩ := hp27
    replace hE := fon_ok e27 hE
    refine aw_sipush (v := 255) dX5_writeSigns_30 (by decide) ?_
    refine aw_icmp_ne (tgt := 41) dX5_writeSigns_33 (by decide) (fun c33 => ?_) (fun c33 => ?_)
    · replace hE := fif hE c33
      refine aw_bipush (v := 48) dX5_writeSigns_41 (by decide) ?_
      exact aw_lv _ (List.forall_mem_cons.mpr ⟨rfl, (List.forall_mem_cons.mpr ⟨rfl, (List.forall_mem_cons.mpr ⟨rfl, (List.forall_mem_cons.mpr ⟨rfl, (List.forall_mem_cons.mpr ⟨rfl, fun _ h => absurd h List.not_mem_nil⟩)⟩)⟩)⟩)⟩) (b_X5_writeSigns_43 m0 sh rr r x ww o so sc pl qo pn bm tg px fa hb n hr ho k4 hk4 k15 hk15 v2 v3 v4 (48 : Int32) y _ hE hF)
    · replace hE := fit hE c33
      refine aw_bipush (v := 49) dX5_writeSigns_36 (by decide) ?_
      refine aw_goto (tgt := 43) dX5_writeSigns_38 (by decide) ?_
      exact aw_lv _ (List.forall_mem_cons.mpr ⟨rfl, (List.forall_mem_cons.mpr ⟨rfl, (List.forall_mem_cons.mpr ⟨rfl, (List.forall_mem_cons.mpr ⟨rfl, (List.forall_mem_cons.mpr ⟨rfl, fun _ h => absurd h List.not_mem_nil⟩)⟩)⟩)⟩)⟩) (b_X5_writeSigns_43 m0 sh rr r x ww o so sc pl qo pn bm tg px fa hb n hr ho k4 hk4 k15 hk15 v2 v3 v4 (49 : Int32) y _ hE hF)
def F_X5_writeSigns_4 (x : Ras) (k4 : Int32 → Int32 → Row → Out Row Unit) (v2 : Int32) (v3 : Int32) (y : Row) : Out Row Unit := if (x_g x) ≤ v3 then (fok () y) else (lp (fun _ _ _ _ => fno) (F_X5_writeSigns_15 x k4) FU v2 v3 (1 : Int32) y)
set_option maxHeartbeats 1000000 in
set_option maxRecDepth 100000 in
theorem b_X5_writeSigns_4 (m0 : Mnt) (sh : Nat → Nat) (rr : Nat → Ras) (r : Nat) (x : Ras) (ww : Nat → Row) (o : Nat) (so : Nat) (sc : Src) (pl : Pal) (qo : Qoi) (pn : Pnm) (bm : Bmp) (tg : Tga) (px : Pcx) (fa : A) (hb : aH) (n : Nat) (hr : isR r) (ho : isW o) (k4 : Int32 → Int32 → Row → Out Row Unit) (hk4 : Q_X5_writeSigns_4 m0 sh rr r x ww o so sc pl qo pn bm tg px fa hb n k4) : Q_X5_writeSigns_4 m0 sh rr r x ww o so sc pl qo pn bm tg px fa hb n (F_X5_writeSigns_4 x k4) := by
  intro v2 v3 y res hE hF
  unfold F_X5_writeSigns_4 at hE
  refine aw_iload_n dX5_writeSigns_4 rfl ?_
  refine aw_aload_n dX5_writeSigns_5 rfl ?_
  refine aw_getf (v := .int (x_g x)) dX5_writeSigns_6 flX5_111_6 (at_ras hr) rfl ?_
  refine aw_icmp_ge (tgt := 84) dX5_writeSigns_9 (by decide) (fun c9 => ?_) (fun c9 => ?_)
  · replace hE := fit hE c9
    exact aw_vret dX5_writeSigns_84 rfl (Nat.zero_le _) (Nat.zero_le _) (Nat.zero_le _) (Nat.zero_le _) ⟨_, _, hE.symm, rfl, rfl, rfl⟩
  · replace hE := fif hE c9
    refine aw_iconst (v := 1) dX5_writeSigns_12 (by decide) ?_
    refine aw_istore (lv2 := [(4, _), (0, _), (1, _), (2, _), (3, _)]) dX5_writeSigns_13 (by decide) rfl ?_
    exact aw_lv _ (List.forall_mem_cons.mpr ⟨rfl, (List.forall_mem_cons.mpr ⟨rfl, (List.forall_mem_cons.mpr ⟨rfl, (List.forall_mem_cons.mpr ⟨rfl, (List.forall_mem_cons.mpr ⟨rfl, fun _ h => absurd h List.not_mem_nil⟩)⟩)⟩)⟩)⟩) (lp_ind (Q_X5_writeSigns_15 m0 sh rr r x ww o so sc pl qo pn bm tg px fa hb n) (fun _ _ _ _ res hq hF => (hF hq.symm).elim) (fun k hk => b_X5_writeSigns_15 m0 sh rr r x ww o so sc pl qo pn bm tg px fa hb n hr ho k4 hk4 k hk) FU v2 v3 (1 : Int32) y _ hE hF)
def F_X5_writeSigns (x : Ras) (y : Row) : Out Row Unit := lp (fun _ _ _ => fno) (F_X5_writeSigns_4 x) FU (0 : Int32) (0 : Int32) y
set_option maxHeartbeats 1000000 in
set_option maxRecDepth 100000 in
theorem kF_X5_writeSigns (m0 : Mnt) (sh : Nat → Nat) (rr : Nat → Ras) (r : Nat) (x : Ras) (ww : Nat → Row) (o : Nat) (y : Row) (so : Nat) (sc : Src) (pl : Pal) (qo : Qoi) (pn : Pnm) (bm : Bmp) (tg : Tga) (px : Pcx) (fa : A) (hb : aH) (n : Nat) (hr : isR r) (ho : isW o)  (hF : F_X5_writeSigns x y ≠ fno) : AM mX5_writeSigns 2 [.ref r, .ref o] (HC m0 sh (va_up rr r x) (va_up ww o y) so sc pl qo pn bm tg px fa hb) n 0 0 0 0 (P_X5_writeSigns m0 sh rr r x ww o so sc pl qo pn bm tg px fa hb n (F_X5_writeSigns x y)) (fun _ _ _ => False) := by
  generalize hE : F_X5_writeSigns x y = res at hF ⊢
  refine aw_of (by decide +kernel) rfl (Nat.le_of_ble_eq_true rfl) ?_
  unfold F_X5_writeSigns at hE
  refine aw_iconst (v := 0) dX5_writeSigns_0 (by decide) ?_
  refine aw_istore_n (lv2 := [(2, _), (0, _), (1, _)]) dX5_writeSigns_1 (by decide) rfl ?_
  refine aw_iconst (v := 0) dX5_writeSigns_2 (by decide) ?_
  refine aw_istore_n (lv2 := [(3, _), (2, _), (0, _), (1, _)]) dX5_writeSigns_3 (by decide) rfl ?_
  exact aw_lv _ (List.forall_mem_cons.mpr ⟨rfl, (List.forall_mem_cons.mpr ⟨rfl, (List.forall_mem_cons.mpr ⟨rfl, (List.forall_mem_cons.mpr ⟨rfl, fun _ h => absurd h List.not_mem_nil⟩)⟩)⟩)⟩) (lp_ind (Q_X5_writeSigns_4 m0 sh rr r x ww o so sc pl qo pn bm tg px fa hb n) (fun _ _ _ res hq hF => (hF hq.symm).elim) (fun k hk => b_X5_writeSigns_4 m0 sh rr r x ww o so sc pl qo pn bm tg px fa hb n hr ho  k hk) FU (0 : Int32) (0 : Int32) y _ hE hF)
