def P_X1_addLow4 (m0 : Mnt) (sh : Nat → Nat) (rr : Nat → Ras) (ww : Nat → Row) (o : Nat) (so : Nat) (sc : Src) (pl : Pal) (qo : Qoi) (pn : Pnm) (bm : Bmp) (tg : Tga) (px : Pcx) (fa : A) (hb : aH) (n : Nat) (res : Out Row Unit) : Option Value → aH → Nat → Prop := fun r1 h2 n2 => ∃ (a : Unit) (s : Row), res = fok a s ∧ r1 = none ∧ h2 = HC m0 sh rr (va_up ww o s) so sc pl qo pn bm tg px fa hb ∧ n = n2
def F_X1_addLow4 (a1 : Int32) (y : Row) : Out Row Unit := fon (F_X1_addLow2 a1 y) (fun z2 s2 => fon (F_X1_addLow2 (a1 >>> ((16 : Int32) &&& 31)) s2) (fun z10 s10 => fok () s10) (fun _ _ => fno)) (fun _ _ => fno)
set_option maxHeartbeats 1000000 in
set_option maxRecDepth 100000 in
theorem kF_X1_addLow4 (m0 : Mnt) (sh : Nat → Nat) (rr : Nat → Ras) (ww : Nat → Row) (o : Nat) (y : Row) (so : Nat) (sc : Src) (pl : Pal) (qo : Qoi) (pn : Pnm) (bm : Bmp) (tg : Tga) (px : Pcx) (fa : A) (hb : aH) (n : Nat) (ho : isW o) (a1 : Int32) (hF : F_X1_addLow4 a1 y ≠ fno) : AM mX1_addLow4 3 [.ref o, .int a1] (HC m0 sh rr (va_up ww o y) so sc pl qo pn bm tg px fa hb) n 0 0 0 0 (P_X1_addLow4 m0 sh rr ww o so sc pl qo pn bm tg px fa hb n (F_X1_addLow4 a1 y)) (fun _ _ _ => False) := by
  generalize hE : F_X1_addLow4 a1 y = res at hF ⊢
  refine aw_of (by decide +kernel) rfl (Nat.le_of_ble_eq_true rfl) ?_
  unfold F_X1_addLow4 at hE
  refine aw_aload_n dX1_addLow4_0 rfl ?_
  refine aw_iload_n dX1_addLow4_1 rfl ?_
  refine aw_callV dX1_addLow4_2 (at_row ho) cvX1_24 rfl (kF_X1_addLow2 m0 sh rr ww o y so sc pl qo pn bm tg px fa hb _ ho a1 (fon_ne hE hF)) rfl (Nat.le_of_ble_eq_true rfl) (by decide) (by decide) (by decide) (by decide) (fun _ _ _ hf => False.elim hf) (fun r2 h2 n2 hp2 => ?_)
  obtain ⟨z2, s2, e2, rfl, rfl, rfl⟩ := hp2
  replace hE := fon_ok e2 hE
  refine aw_aload_n dX1_addLow4_5 rfl ?_
  refine aw_iload_n dX1_addLow4_6 rfl ?_
  refine aw_bipush (v := 16) dX1_addLow4_7 (by decide) ?_
  refine aw_ishr dX1_addLow4_9 ?_
  refine aw_callV dX1_addLow4_10 (at_row ho) cvX1_24 rfl (kF_X1_addLow2 m0 sh rr ww o s2 so sc pl qo pn bm tg px fa hb _ ho (a1 >>> ((16 : Int32) &&& 31)) (fon_ne hE hF)) rfl (Nat.le_of_ble_eq_true rfl) (by decide) (by decide) (by decide) (by decide) (fun _ _ _ hf => False.elim hf) (fun r10 h10 n10 hp10 => ?_)
  obtain ⟨z10, s10, e10, rfl, rfl, rfl⟩ := hp10
  replace hE := fon_ok e10 hE
  exact aw_vret dX1_addLow4_13 rfl (Nat.zero_le _) (Nat.zero_le _) (Nat.zero_le _) (Nat.zero_le _) ⟨_, _, hE.symm, rfl, rfl, rfl⟩
def P_X0_writeRuns (m0 : Mnt) (sh : Nat → Nat) (rr : Nat → Ras) (r : Nat) (x : Ras) (ww : Nat → Row) (o : Nat) (so : Nat) (sc : Src) (pl : Pal) (qo : Qoi) (pn : Pnm) (bm : Bmp) (tg : Tga) (px : Pcx) (fa : A) (hb : aH) (n : Nat) (res : Out Row Unit) : Option Value → aH → Nat → Prop := fun r1 h2 n2 => ∃ (a : Unit) (s : Row), res = fok a s ∧ r1 = none ∧ h2 = HC m0 sh (va_up rr r x) (va_up ww o s) so sc pl qo pn bm tg px fa hb ∧ n = n2
abbrev Q_X0_writeRuns_14 (m0 : Mnt) (sh : Nat → Nat) (rr : Nat → Ras) (r : Nat) (x : Ras) (ww : Nat → Row) (o : Nat) (so : Nat) (sc : Src) (pl : Pal) (qo : Qoi) (pn : Pnm) (bm : Bmp) (tg : Tga) (px : Pcx) (fa : A) (hb : aH) (n : Nat) (k : Int32 → Int32 → Int32 → Int32 → Row → Out Row Unit) : Prop := ∀ (v2 : Int32) (v4 : Int32) (v5 : Int32) (v6 : Int32) (y : Row) (res : Out Row Unit), k v2 v4 v5 v6 y = res → res ≠ fno → AW (fun _ _ => True) mX0_writeRuns (rmD 3 0 0) 0 0 (P_X0_writeRuns m0 sh rr r x ww o so sc pl qo pn bm tg px fa hb n res) (fun _ _ _ => False) 0 0 14 [(0, .ref 24), (1, .ref r), (2, .int v2), (3, .ref o), (4, .int v4), (5, .int v5), (6, .int v6)] [] (HC m0 sh (va_up rr r x) (va_up ww o y) so sc pl qo pn bm tg px fa hb) n
abbrev Q_X0_writeRuns_64 (m0 : Mnt) (sh : Nat → Nat) (rr : Nat → Ras) (r : Nat) (x : Ras) (ww : Nat → Row) (o : Nat) (so : Nat) (sc : Src) (pl : Pal) (qo : Qoi) (pn : Pnm) (bm : Bmp) (tg : Tga) (px : Pcx) (fa : A) (hb : aH) (n : Nat) (k : Int32 → Int32 → Int32 → Int32 → Int32 → Row → Out Row Unit) : Prop := ∀ (v2 : Int32) (v4 : Int32) (v5 : Int32) (v6 : Int32) (v7 : Int32) (y : Row) (res : Out Row Unit), k v2 v4 v5 v6 v7 y = res → res ≠ fno → AW (fun _ _ => True) mX0_writeRuns (rmD 3 0 0) 0 0 (P_X0_writeRuns m0 sh rr r x ww o so sc pl qo pn bm tg px fa hb n res) (fun _ _ _ => False) 0 0 64 [(0, .ref 24), (1, .ref r), (2, .int v2), (3, .ref o), (4, .int v4), (5, .int v5), (6, .int v6), (7, .int v7)] [] (HC m0 sh (va_up rr r x) (va_up ww o y) so sc pl qo pn bm tg px fa hb) n
abbrev Q_X0_writeRuns_69 (m0 : Mnt) (sh : Nat → Nat) (rr : Nat → Ras) (r : Nat) (x : Ras) (ww : Nat → Row) (o : Nat) (so : Nat) (sc : Src) (pl : Pal) (qo : Qoi) (pn : Pnm) (bm : Bmp) (tg : Tga) (px : Pcx) (fa : A) (hb : aH) (n : Nat) (k : Int32 → Int32 → Int32 → Int32 → Int32 → Int32 → Row → Out Row Unit) : Prop := ∀ (v2 : Int32) (v4 : Int32) (v5 : Int32) (v6 : Int32) (v7 : Int32) (t0 : Int32) (y : Row) (res : Out Row Unit), k v2 v4 v5 v6 v7 t0 y = res → res ≠ fno → AW (fun _ _ => True) mX0_writeRuns (rmD 3 0 0) 0 0 (P_X0_writeRuns m0 sh rr r x ww o so sc pl qo pn bm tg px fa hb n res) (fun _ _ _ => False) 0 0 69 [(0, .ref 24), (1, .ref r), (2, .int v2), (3, .ref o), (4, .int v4), (5, .int v5), (6, .int v6), (7, .int v7)] [.int t0] (HC m0 sh (va_up rr r x) (va_up ww o y) so sc pl qo pn bm tg px fa hb) n
abbrev Q_X0_writeRuns_84 (m0 : Mnt) (sh : Nat → Nat) (rr : Nat → Ras) (r : Nat) (x : Ras) (ww : Nat → Row) (o : Nat) (so : Nat) (sc : Src) (pl : Pal) (qo : Qoi) (pn : Pnm) (bm : Bmp) (tg : Tga) (px : Pcx) (fa : A) (hb : aH) (n : Nat) (k : Int32 → Int32 → Int32 → Int32 → Int32 → Row → Out Row Unit) : Prop := ∀ (v2 : Int32) (v4 : Int32) (v5 : Int32) (v6 : Int32) (v7 : Int32) (y : Row) (res : Out Row Unit), k v2 v4 v5 v6 v7 y = res → res ≠ fno → AW (fun _ _ => True) mX0_writeRuns (rmD 3 0 0) 0 0 (P_X0_writeRuns m0 sh rr r x ww o so sc pl qo pn bm tg px fa hb n res) (fun _ _ _ => False) 0 0 84 [(0, .ref 24), (1, .ref r), (2, .int v2), (3, .ref o), (4, .int v4), (5, .int v5), (6, .int v6), (7, .int v7)] [] (HC m0 sh (va_up rr r x) (va_up ww o y) so sc pl qo pn bm tg px fa hb) n
abbrev Q_X0_writeRuns_106 (m0 : Mnt) (sh : Nat → Nat) (rr : Nat → Ras) (r : Nat) (x : Ras) (ww : Nat → Row) (o : Nat) (so : Nat) (sc : Src) (pl : Pal) (qo : Qoi) (pn : Pnm) (bm : Bmp) (tg : Tga) (px : Pcx) (fa : A) (hb : aH) (n : Nat) (k : Int32 → Int32 → Int32 → Int32 → Row → Out Row Unit) : Prop := ∀ (v2 : Int32) (v4 : Int32) (v5 : Int32) (v6 : Int32) (y : Row) (res : Out Row Unit), k v2 v4 v5 v6 y = res → res ≠ fno → AW (fun _ _ => True) mX0_writeRuns (rmD 3 0 0) 0 0 (P_X0_writeRuns m0 sh rr r x ww o so sc pl qo pn bm tg px fa hb n res) (fun _ _ _ => False) 0 0 106 [(0, .ref 24), (1, .ref r), (2, .int v2), (3, .ref o), (4, .int v4), (5, .int v5), (6, .int v6)] [] (HC m0 sh (va_up rr r x) (va_up ww o y) so sc pl qo pn bm tg px fa hb) n
abbrev Q_X0_writeRuns_127 (m0 : Mnt) (sh : Nat → Nat) (rr : Nat → Ras) (r : Nat) (x : Ras) (ww : Nat → Row) (o : Nat) (so : Nat) (sc : Src) (pl : Pal) (qo : Qoi) (pn : Pnm) (bm : Bmp) (tg : Tga) (px : Pcx) (fa : A) (hb : aH) (n : Nat) (k : Int32 → Row → Out Row Unit) : Prop := ∀ (t0 : Int32) (y : Row) (res : Out Row Unit), k t0 y = res → res ≠ fno → AW (fun _ _ => True) mX0_writeRuns (rmD 3 0 0) 0 0 (P_X0_writeRuns m0 sh rr r x ww o so sc pl qo pn bm tg px fa hb n res) (fun _ _ _ => False) 0 0 127 [] [.int t0, .ref o] (HC m0 sh (va_up rr r x) (va_up ww o y) so sc pl qo pn bm tg px fa hb) n
def F_X0_writeRuns_127 (x : Ras) (pl : Pal)  (t0 : Int32) (y : Row) : Out Row Unit := fon (F_X1_add t0 y) (fun z127 s127 => fok () s127) (fun _ _ => fno)
set_option maxHeartbeats 1000000 in
set_option maxRecDepth 100000 in
theorem b_X0_writeRuns_127 (m0 : Mnt) (sh : Nat → Nat) (rr : Nat → Ras) (r : Nat) (x : Ras) (ww : Nat → Row) (o : Nat) (so : Nat) (sc : Src) (pl : Pal) (qo : Qoi) (pn : Pnm) (bm : Bmp) (tg : Tga) (px : Pcx) (fa : A) (hb : aH) (n : Nat) (hr : isR r) (ho : isW o)  : Q_X0_writeRuns_127 m0 sh rr r x ww o so sc pl qo pn bm tg px fa hb n (F_X0_writeRuns_127 x pl) := by
  intro t0 y res hE hF
  unfold F_X0_writeRuns_127 at hE
  refine aw_callV dX0_writeRuns_127 (at_row ho) cvX0_198 rfl (kF_X1_add m0 sh (va_up rr r x) ww o y so sc pl qo pn bm tg px fa hb _ ho t0 (fon_ne hE hF)) rfl (Nat.le_of_ble_eq_true rfl) (by decide) (by decide) (by decide) (by decide) (fun _ _ _ hf => False.elim hf) (fun r127 h127 n127 hp127 => ?_)
  obtain ⟨z127, s127, e127, rfl, rfl, rfl⟩ := hp127
  replace hE := fon_ok e127 hE
  exact aw_vret dX0_writeRuns_130 rfl (Nat.zero_le _) (Nat.zero_le _) (Nat.zero_le _) (Nat.zero_le _) ⟨_, _, hE.symm, rfl, rfl, rfl⟩
def F_X0_writeRuns_106 (x : Ras) (pl : Pal) (k14 : Int32 → Int32 → Int32 → Int32 → Row → Out Row Unit) (v2 : Int32) (v4 : Int32) (v5 : Int32) (v6 : Int32) (y : Row) : Out Row Unit := k14 v2 v4 v5 (v6 + 1) y
set_option maxHeartbeats 1000000 in
set_option maxRecDepth 100000 in
theorem b_X0_writeRuns_106 (m0 : Mnt) (sh : Nat → Nat) (rr : Nat → Ras) (r : Nat) (x : Ras) (ww : Nat → Row) (o : Nat) (so : Nat) (sc : Src) (pl : Pal) (qo : Qoi) (pn : Pnm) (bm : Bmp) (tg : Tga) (px : Pcx) (fa : A) (hb : aH) (n : Nat) (hr : isR r) (ho : isW o) (k14 : Int32 → Int32 → Int32 → Int32 → Row → Out Row Unit) (hk14 : Q_X0_writeRuns_14 m0 sh rr r x ww o so sc pl qo pn bm tg px fa hb n k14) : Q_X0_writeRuns_106 m0 sh rr r x ww o so sc pl qo pn bm tg px fa hb n (F_X0_writeRuns_106 x pl k14) := by
  intro v2 v4 v5 v6 y res hE hF
  unfold F_X0_writeRuns_106 at hE
  refine aw_iinc (v := (v6 + 1)) (lv2 := [(6, _), (0, _), (1, _), (2, _), (3, _), (4, _), (5, _)]) dX0_writeRuns_106 rfl (incE (by decide)) (by decide) rfl ?_
  refine aw_goto (tgt := 14) dX0_writeRuns_109 (by decide) ?_
  exact aw_lv _ (List.forall_mem_cons.mpr ⟨rfl, (List.forall_mem_cons.mpr ⟨rfl, (List.forall_mem_cons.mpr ⟨rfl, (List.forall_mem_cons.mpr ⟨rfl, (List.forall_mem_cons.mpr ⟨rfl, (List.forall_mem_cons.mpr ⟨rfl, (List.forall_mem_cons.mpr ⟨rfl, fun _ h => absurd h List.not_mem_nil⟩)⟩)⟩)⟩)⟩)⟩)⟩) (hk14 v2 v4 v5 (v6 + 1) y _ hE hF)
def F_X0_writeRuns_84 (x : Ras) (pl : Pal) (k14 : Int32 → Int32 → Int32 → Int32 → Row → Out Row Unit) (v2 : Int32) (v4 : Int32) (v5 : Int32) (v6 : Int32) (v7 : Int32) (y : Row) : Out Row Unit := fon (F_X1_add v5 y) (fun z87 s87 => fon (F_X3_numberOf v7 pl) (fun z97 s97 => fon (F_X1_add z97 s87) (fun z100 s100 => F_X0_writeRuns_106 x pl k14 v2 v4 (0 : Int32) v6 s100) (fun _ _ => fno)) (fun _ _ => fno)) (fun _ _ => fno)
set_option maxHeartbeats 1000000 in
set_option maxRecDepth 100000 in
theorem b_X0_writeRuns_84 (m0 : Mnt) (sh : Nat → Nat) (rr : Nat → Ras) (r : Nat) (x : Ras) (ww : Nat → Row) (o : Nat) (so : Nat) (sc : Src) (pl : Pal) (qo : Qoi) (pn : Pnm) (bm : Bmp) (tg : Tga) (px : Pcx) (fa : A) (hb : aH) (n : Nat) (hr : isR r) (ho : isW o) (k14 : Int32 → Int32 → Int32 → Int32 → Row → Out Row Unit) (hk14 : Q_X0_writeRuns_14 m0 sh rr r x ww o so sc pl qo pn bm tg px fa hb n k14) : Q_X0_writeRuns_84 m0 sh rr r x ww o so sc pl qo pn bm tg px fa hb n (F_X0_writeRuns_84 x pl k14) := by
  intro v2 v4 v5 v6 v7 y res hE hF
  unfold F_X0_writeRuns_84 at hE
  refine aw_aload_n dX0_writeRuns_84 rfl ?_
  refine aw_iload dX0_writeRuns_85 rfl ?_
  refine aw_callV dX0_writeRuns_87 (at_row ho) cvX0_198 rfl (kF_X1_add m0 sh (va_up rr r x) ww o y so sc pl qo pn bm tg px fa hb _ ho v5 (fon_ne hE hF)) rfl (Nat.le_of_ble_eq_true rfl) (by decide) (by decide) (by decide) (by decide) (fun _ _ _ hf => False.elim hf) (fun r87 h87 n87 hp87 => ?_)
  obtain ⟨z87, s87, e87, rfl, rfl, rfl⟩ := hp87
  replace hE := fon_ok e87 hE
  refine aw_aload_n dX0_writeRuns_90 rfl ?_
  refine aw_aload_n dX0_writeRuns_91 rfl ?_
  refine aw_getf (v := .ref 17) dX0_writeRuns_92 flX0_15_0 at_bmp rfl ?_
  refine aw_iload dX0_writeRuns_95 rfl ?_
  refine aw_callV dX0_writeRuns_97 at_pal cvX0_234 rfl (kF_X3_numberOf m0 sh (va_up rr r x) (va_up ww o s87) so sc pl qo pn bm tg px fa hb _  v7 (fon_ne hE hF)) rfl (Nat.le_of_ble_eq_true rfl) (by decide) (by decide) (by decide) (by decide) (fun _ _ _ hf => False.elim hf) (fun r97 h97 n97 hp97 => ?_)
  obtain ⟨z97, s97, e97, rfl, rfl, rfl⟩ := hp97
  replace hE := fon_ok e97 hE
  refine aw_callV dX0_writeRuns_100 (at_row ho) cvX0_198 rfl (kF_X1_add m0 sh (va_up rr r x) ww o s87 so sc pl qo pn bm tg px fa hb _ ho z97 (fon_ne hE hF)) rfl (Nat.le_of_ble_eq_true rfl) (by decide) (by decide) (by decide) (by decide) (fun _ _ _ hf => False.elim hf) (fun r100 h100 n100 hp100 => ?_)
  obtain ⟨z100, s100, e100, rfl, rfl, rfl⟩ := hp100
  replace hE := fon_ok e100 hE
  refine aw_iconst (v := 0) dX0_writeRuns_103 (by decide) ?_
  refine aw_istore (lv2 := [(5, _), (0, _), (1, _), (2, _), (3, _), (4, _), (6, _), (7, _)]) dX0_writeRuns_104 (by decide) rfl ?_
  exact aw_lv _ (List.forall_mem_cons.mpr ⟨rfl, (List.forall_mem_cons.mpr ⟨rfl, (List.forall_mem_cons.mpr ⟨rfl, (List.forall_mem_cons.mpr ⟨rfl, (List.forall_mem_cons.mpr ⟨rfl, (List.forall_mem_cons.mpr ⟨rfl, (List.forall_mem_cons.mpr ⟨rfl, fun _ h => absurd h List.not_mem_nil⟩)⟩)⟩)⟩)⟩)⟩)⟩) (b_X0_writeRuns_106 m0 sh rr r x ww o so sc pl qo pn bm tg px fa hb n hr ho k14 hk14 v2 v4 (0 : Int32) v6 s100 _ hE hF)
def F_X0_writeRuns_69 (x : Ras) (pl : Pal) (k14 : Int32 → Int32 → Int32 → Int32 → Row → Out Row Unit) (v2 : Int32) (v4 : Int32) (v5 : Int32) (v6 : Int32) (v7 : Int32) (t0 : Int32) (y : Row) : Out Row Unit := if t0 = 0 then (if v5 = 255 then (F_X0_writeRuns_84 x pl k14 v2 v4 v5 v6 v7 y) else (F_X0_writeRuns_106 x pl k14 v2 v4 v5 v6 y)) else (F_X0_writeRuns_84 x pl k14 v2 v4 v5 v6 v7 y)
set_option maxHeartbeats 1000000 in
set_option maxRecDepth 100000 in
theorem b_X0_writeRuns_69 (m0 : Mnt) (sh : Nat → Nat) (rr : Nat → Ras) (r : Nat) (x : Ras) (ww : Nat → Row) (o : Nat) (so : Nat) (sc : Src) (pl : Pal) (qo : Qoi) (pn : Pnm) (bm : Bmp) (tg : Tga) (px : Pcx) (fa : A) (hb : aH) (n : Nat) (hr : isR r) (ho : isW o) (k14 : Int32 → Int32 → Int32 → Int32 → Row → Out Row Unit) (hk14 : Q_X0_writeRuns_14 m0 sh rr r x ww o so sc pl qo pn bm tg px fa hb n k14) : Q_X0_writeRuns_69 m0 sh rr r x ww o so sc pl qo pn bm tg px fa hb n (F_X0_writeRuns_69 x pl k14) := by
  intro v2 v4 v5 v6 v7 t0 y res hE hF
  unfold F_X0_writeRuns_69 at hE
  refine aw_istore (lv2 := [(8, _), (0, _), (1, _), (2, _), (3, _), (4, _), (5, _), (6, _), (7, _)]) dX0_writeRuns_69 (by decide) rfl ?_
  refine aw_iload dX0_writeRuns_71 rfl ?_
  refine aw_if_ne (tgt := 84) dX0_writeRuns_73 (by decide) (fun c73 => ?_) (fun c73 => ?_)
  · replace hE := fif hE c73
    exact aw_lv _ (List.forall_mem_cons.mpr ⟨rfl, (List.forall_mem_cons.mpr ⟨rfl, (List.forall_mem_cons.mpr ⟨rfl, (List.forall_mem_cons.mpr ⟨rfl, (List.forall_mem_cons.mpr ⟨rfl, (List.forall_mem_cons.mpr ⟨rfl, (List.forall_mem_cons.mpr ⟨rfl, (List.forall_mem_cons.mpr ⟨rfl, fun _ h => absurd h List.not_mem_nil⟩)⟩)⟩)⟩)⟩)⟩)⟩)⟩) (b_X0_writeRuns_84 m0 sh rr r x ww o so sc pl qo pn bm tg px fa hb n hr ho k14 hk14 v2 v4 v5 v6 v7 y _ hE hF)
  · replace hE := fit hE c73
    refine aw_iload dX0_writeRuns_76 rfl ?_
    refine aw_sipush (v := 255) dX0_writeRuns_78 (by decide) ?_
    refine aw_icmp_ne (tgt := 106) dX0_writeRuns_81 (by decide) (fun c81 => ?_) (fun c81 => ?_)
    · replace hE := fif hE c81
      exact aw_lv _ (List.forall_mem_cons.mpr ⟨rfl, (List.forall_mem_cons.mpr ⟨rfl, (List.forall_mem_cons.mpr ⟨rfl, (List.forall_mem_cons.mpr ⟨rfl, (List.forall_mem_cons.mpr ⟨rfl, (List.forall_mem_cons.mpr ⟨rfl, (List.forall_mem_cons.mpr ⟨rfl, fun _ h => absurd h List.not_mem_nil⟩)⟩)⟩)⟩)⟩)⟩)⟩) (b_X0_writeRuns_106 m0 sh rr r x ww o so sc pl qo pn bm tg px fa hb n hr ho k14 hk14 v2 v4 v5 v6 y _ hE hF)
    · replace hE := fit hE c81
      exact aw_lv _ (List.forall_mem_cons.mpr ⟨rfl, (List.forall_mem_cons.mpr ⟨rfl, (List.forall_mem_cons.mpr ⟨rfl, (List.forall_mem_cons.mpr ⟨rfl, (List.forall_mem_cons.mpr ⟨rfl, (List.forall_mem_cons.mpr ⟨rfl, (List.forall_mem_cons.mpr ⟨rfl, (List.forall_mem_cons.mpr ⟨rfl, fun _ h => absurd h List.not_mem_nil⟩)⟩)⟩)⟩)⟩)⟩)⟩)⟩) (b_X0_writeRuns_84 m0 sh rr r x ww o so sc pl qo pn bm tg px fa hb n hr ho k14 hk14 v2 v4 v5 v6 v7 y _ hE hF)
def F_X0_writeRuns_64 (x : Ras) (pl : Pal) (k14 : Int32 → Int32 → Int32 → Int32 → Row → Out Row Unit) (v2 : Int32) (v4 : Int32) (v5 : Int32) (v6 : Int32) (v7 : Int32) (y : Row) : Out Row Unit := F_X0_writeRuns_69 x pl k14 v2 v4 v5 v6 v7 (1 : Int32) y
set_option maxHeartbeats 1000000 in
set_option maxRecDepth 100000 in
theorem b_X0_writeRuns_64 (m0 : Mnt) (sh : Nat → Nat) (rr : Nat → Ras) (r : Nat) (x : Ras) (ww : Nat → Row) (o : Nat) (so : Nat) (sc : Src) (pl : Pal) (qo : Qoi) (pn : Pnm) (bm : Bmp) (tg : Tga) (px : Pcx) (fa : A) (hb : aH) (n : Nat) (hr : isR r) (ho : isW o) (k14 : Int32 → Int32 → Int32 → Int32 → Row → Out Row Unit) (hk14 : Q_X0_writeRuns_14 m0 sh rr r x ww o so sc pl qo pn bm tg px fa hb n k14) : Q_X0_writeRuns_64 m0 sh rr r x ww o so sc pl qo pn bm tg px fa hb n (F_X0_writeRuns_64 x pl k14) := by
  intro v2 v4 v5 v6 v7 y res hE hF
  unfold F_X0_writeRuns_64 at hE
  refine aw_iconst (v := 1) dX0_writeRuns_64 (by decide) ?_
  refine aw_goto (tgt := 69) dX0_writeRuns_65 (by decide) ?_
  exact aw_lv _ (List.forall_mem_cons.mpr ⟨rfl, (List.forall_mem_cons.mpr ⟨rfl, (List.forall_mem_cons.mpr ⟨rfl, (List.forall_mem_cons.mpr ⟨rfl, (List.forall_mem_cons.mpr ⟨rfl, (List.forall_mem_cons.mpr ⟨rfl, (List.forall_mem_cons.mpr ⟨rfl, (List.forall_mem_cons.mpr ⟨rfl, fun _ h => absurd h List.not_mem_nil⟩)⟩)⟩)⟩)⟩)⟩)⟩)⟩) (b_X0_writeRuns_69 m0 sh rr r x ww o so sc pl qo pn bm tg px fa hb n hr ho k14 hk14 v2 v4 v5 v6 v7 (1 : Int32) y _ hE hF)
def F_X0_writeRuns_14 (x : Ras) (pl : Pal) (k14 : Int32 → Int32 → Int32 → Int32 → Row → Out Row Unit) (v2 : Int32) (v4 : Int32) (v5 : Int32) (v6 : Int32) (y : Row) : Out Row Unit := if (x_w x) ≤ v6 then (fon (F_X1_add 0 y) (fun z114 s114 => if v2 = 0 then (F_X0_writeRuns_127 x pl (1 : Int32) s114) else (F_X0_writeRuns_127 x pl (0 : Int32) s114)) (fun _ _ => fno)) else (fon (F_X7_get (v4 + v6) x) (fun z29 s29 => if v6 = ((x_w x) - 1) then (F_X0_writeRuns_64 x pl k14 v2 v4 (v5 + 1) v6 z29 y) else (fon (F_X7_get ((v4 + v6) + 1) x) (fun z56 s56 => if z56 = z29 then (F_X0_writeRuns_69 x pl k14 v2 v4 (v5 + 1) v6 z29 (0 : Int32) y) else (F_X0_writeRuns_64 x pl k14 v2 v4 (v5 + 1) v6 z29 y)) (fun _ _ => fno))) (fun _ _ => fno))
set_option maxHeartbeats 1000000 in
set_option maxRecDepth 100000 in
theorem b_X0_writeRuns_14 (m0 : Mnt) (sh : Nat → Nat) (rr : Nat → Ras) (r : Nat) (x : Ras) (ww : Nat → Row) (o : Nat) (so : Nat) (sc : Src) (pl : Pal) (qo : Qoi) (pn : Pnm) (bm : Bmp) (tg : Tga) (px : Pcx) (fa : A) (hb : aH) (n : Nat) (hr : isR r) (ho : isW o) (k14 : Int32 → Int32 → Int32 → Int32 → Row → Out Row Unit) (hk14 : Q_X0_writeRuns_14 m0 sh rr r x ww o so sc pl qo pn bm tg px fa hb n k14) : Q_X0_writeRuns_14 m0 sh rr r x ww o so sc pl qo pn bm tg px fa hb n (F_X0_writeRuns_14 x pl k14) := by
  intro v2 v4 v5 v6 y res hE hF
  unfold F_X0_writeRuns_14 at hE
  refine aw_iload dX0_writeRuns_14 rfl ?_
  refine aw_aload_n dX0_writeRuns_16 rfl ?_
  refine aw_getf (v := .int (x_w x)) dX0_writeRuns_17 flX0_119_6 (at_ras hr) rfl ?_
  refine aw_icmp_ge (tgt := 112) dX0_writeRuns_20 (by decide) (fun c20 => ?_) (fun c20 => ?_)
  · replace hE := fit hE c20
    refine aw_aload_n dX0_writeRuns_112 rfl ?_
    refine aw_iconst (v := 0) dX0_writeRuns_113 (by decide) ?_
    refine aw_callV dX0_writeRuns_114 (at_row ho) cvX0_198 rfl (kF_X1_add m0 sh (va_up rr r x) ww o y so sc pl qo pn bm tg px fa hb _ ho 0 (fon_ne hE hF)) rfl (Nat.le_of_ble_eq_true rfl) (by decide) (by decide) (by decide) (by decide) (fun _ _ _ hf => False.elim hf) (fun r114 h114 n114 hp114 => ?_)
    obtain ⟨z114, s114, e114, rfl, rfl, rfl⟩ := hp114
    replace hE := fon_ok e114 hE
    refine aw_aload_n dX0_writeRuns_117 rfl ?_
    refine aw_iload_n dX0_writeRuns_118 rfl ?_
    refine aw_if_ne (tgt := 126) dX0_writeRuns_119 (by decide) (fun c119 => ?_) (fun c119 => ?_)
    · replace hE := fif hE c119
      refine aw_iconst (v := 0) dX0_writeRuns_126 (by decide) ?_
      exact aw_lv _ (fun _ h => absurd h List.not_mem_nil) (b_X0_writeRuns_127 m0 sh rr r x ww o so sc pl qo pn bm tg px fa hb n hr ho  (0 : Int32) s114 _ hE hF)
    · replace hE := fit hE c119
      refine aw_iconst (v := 1) dX0_writeRuns_122 (by decide) ?_
      refine aw_goto (tgt := 127) dX0_writeRuns_123 (by decide) ?_
      exact aw_lv _ (fun _ h => absurd h List.not_mem_nil) (b_X0_writeRuns_127 m0 sh rr r x ww o so sc pl qo pn bm tg px fa hb n hr ho  (1 : Int32) s114 _ hE hF)
  · replace hE := fif hE c20
    refine aw_aload_n dX0_writeRuns_23 rfl ?_
    refine aw_iload dX0_writeRuns_24 rfl ?_
    refine aw_iload dX0_writeRuns_26 rfl ?_
    refine aw_iadd dX0_writeRuns_28 ?_
    refine aw_callV dX0_writeRuns_29 (at_ras hr) cvX0_233 rfl (kF_X7_get m0 sh rr r x (va_up ww o y) so sc pl qo pn bm tg px fa hb _ hr (v4 + v6) (fon_ne hE hF)) rfl (Nat.le_of_ble_eq_true rfl) (by decide) (by decide) (by decide) (by decide) (fun _ _ _ hf => False.elim hf) (fun r29 h29 n29 hp29 => ?_)
    obtain ⟨z29, s29, e29, rfl, rfl, rfl⟩ := hp29
    replace hE := fon_ok e29 hE
    refine aw_istore (lv2 := [(7, _), (0, _), (1, _), (2, _), (3, _), (4, _), (5, _), (6, _)]) dX0_writeRuns_32 (by decide) rfl ?_
    refine aw_iinc (v := (v5 + 1)) (lv2 := [(5, _), (7, _), (0, _), (1, _), (2, _), (3, _), (4, _), (6, _)]) dX0_writeRuns_34 rfl (incE (by decide)) (by decide) rfl ?_
    refine aw_iload dX0_writeRuns_37 rfl ?_
    refine aw_aload_n dX0_writeRuns_39 rfl ?_
    refine aw_getf (v := .int (x_w x)) dX0_writeRuns_40 flX0_119_6 (at_ras hr) rfl ?_
    refine aw_iconst (v := 1) dX0_writeRuns_43 (by decide) ?_
    refine aw_isub dX0_writeRuns_44 ?_
    refine aw_icmp_eq (tgt := 64) dX0_writeRuns_45 (by decide) (fun c45 => ?_) (fun c45 => ?_)
    · replace hE := fit hE c45
      exact aw_lv _ (List.forall_mem_cons.mpr ⟨rfl, (List.forall_mem_cons.mpr ⟨rfl, (List.forall_mem_cons.mpr ⟨rfl, (List.forall_mem_cons.mpr ⟨rfl, (List.forall_mem_cons.mpr ⟨rfl, (List.forall_mem_cons.mpr ⟨rfl, (List.forall_mem_cons.mpr ⟨rfl, (List.forall_mem_cons.mpr ⟨rfl, fun _ h => absurd h List.not_mem_nil⟩)⟩)⟩)⟩)⟩)⟩)⟩)⟩) (b_X0_writeRuns_64 m0 sh rr r x ww o so sc pl qo pn bm tg px fa hb n hr ho k14 hk14 v2 v4 (v5 + 1) v6 z29 y _ hE hF)
    · replace hE := fif hE c45
      refine aw_aload_n dX0_writeRuns_48 rfl ?_
      refine aw_iload dX0_writeRuns_49 rfl ?_
      refine aw_iload dX0_writeRuns_51 rfl ?_
      refine aw_iadd dX0_writeRuns_53 ?_
      refine aw_iconst (v := 1) dX0_writeRuns_54 (by decide) ?_
      refine aw_iadd dX0_writeRuns_55 ?_
      refine aw_callV dX0_writeRuns_56 (at_ras hr) cvX0_233 rfl (kF_X7_get m0 sh rr r x (va_up ww o y) so sc pl qo pn bm tg px fa hb _ hr ((v4 + v6) + 1) (fon_ne hE hF)) rfl (Nat.le_of_ble_eq_true rfl) (by decide) (by decide) (by decide) (by decide) (fun _ _ _ hf => False.elim hf) (fun r56 h56 n56 hp56 => ?_)
      obtain ⟨z56, s56, e56, rfl, rfl, rfl⟩ := hp56
      replace hE := fon_ok e56 hE
      refine aw_iload dX0_writeRuns_59 rfl ?_
      refine aw_icmp_eq (tgt := 68) dX0_writeRuns_61 (by decide) (fun c61 => ?_) (fun c61 => ?_)
      · replace hE := fit hE c61
        refine aw_iconst (v := 0) dX0_writeRuns_68 (by decide) ?_
        exact aw_lv _ (List.forall_mem_cons.mpr ⟨rfl, (List.forall_mem_cons.mpr ⟨rfl, (List.forall_mem_cons.mpr ⟨rfl, (List.forall_mem_cons.mpr ⟨rfl, (List.forall_mem_cons.mpr ⟨rfl, (List.forall_mem_cons.mpr ⟨rfl, (List.forall_mem_cons.mpr ⟨rfl, (List.forall_mem_cons.mpr ⟨rfl, fun _ h => absurd h List.not_mem_nil⟩)⟩)⟩)⟩)⟩)⟩)⟩)⟩) (b_X0_writeRuns_69 m0 sh rr r x ww o so sc pl qo pn bm tg px fa hb n hr ho k14 hk14 v2 v4 (v5 + 1) v6 z29 (0 : Int32) y _ hE hF)
      · replace hE := fif hE c61
        exact aw_lv _ (List.forall_mem_cons.mpr ⟨rfl, (List.forall_mem_cons.mpr ⟨rfl, (List.forall_mem_cons.mpr ⟨rfl, (List.forall_mem_cons.mpr ⟨rfl, (List.forall_mem_cons.mpr ⟨rfl, (List.forall_mem_cons.mpr ⟨rfl, (List.forall_mem_cons.mpr ⟨rfl, (List.forall_mem_cons.mpr ⟨rfl, fun _ h => absurd h List.not_mem_nil⟩)⟩)⟩)⟩)⟩)⟩)⟩)⟩) (b_X0_writeRuns_64 m0 sh rr r x ww o so sc pl qo pn bm tg px fa hb n hr ho k14 hk14 v2 v4 (v5 + 1) v6 z29 y _ hE hF)
def F_X0_writeRuns (a2 : Int32) (x : Ras) (y : Row) (pl : Pal) : Out Row Unit := lp (fun _ _ _ _ _ => fno) (F_X0_writeRuns_14 x pl) FU a2 (a2 * (x_w x)) (0 : Int32) (0 : Int32) y
set_option maxHeartbeats 1000000 in
set_option maxRecDepth 100000 in
theorem kF_X0_writeRuns (m0 : Mnt) (sh : Nat → Nat) (rr : Nat → Ras) (r : Nat) (x : Ras) (ww : Nat → Row) (o : Nat) (y : Row) (so : Nat) (sc : Src) (pl : Pal) (qo : Qoi) (pn : Pnm) (bm : Bmp) (tg : Tga) (px : Pcx) (fa : A) (hb : aH) (n : Nat) (hr : isR r) (ho : isW o) (a2 : Int32) (hF : F_X0_writeRuns a2 x y pl ≠ fno) : AM mX0_writeRuns 3 [.ref 24, .ref r, .int a2, .ref o] (HC m0 sh (va_up rr r x) (va_up ww o y) so sc pl qo pn bm tg px fa hb) n 0 0 0 0 (P_X0_writeRuns m0 sh rr r x ww o so sc pl qo pn bm tg px fa hb n (F_X0_writeRuns a2 x y pl)) (fun _ _ _ => False) := by
  generalize hE : F_X0_writeRuns a2 x y pl = res at hF ⊢
  refine aw_of (by decide +kernel) rfl (Nat.le_of_ble_eq_true rfl) ?_
  unfold F_X0_writeRuns at hE
  refine aw_iload_n dX0_writeRuns_0 rfl ?_
  refine aw_aload_n dX0_writeRuns_1 rfl ?_
  refine aw_getf (v := .int (x_w x)) dX0_writeRuns_2 flX0_119_6 (at_ras hr) rfl ?_
  refine aw_imul dX0_writeRuns_5 ?_
  refine aw_istore (lv2 := [(4, _), (0, _), (1, _), (2, _), (3, _)]) dX0_writeRuns_6 (by decide) rfl ?_
  refine aw_iconst (v := 0) dX0_writeRuns_8 (by decide) ?_
  refine aw_istore (lv2 := [(5, _), (4, _), (0, _), (1, _), (2, _), (3, _)]) dX0_writeRuns_9 (by decide) rfl ?_
  refine aw_iconst (v := 0) dX0_writeRuns_11 (by decide) ?_
  refine aw_istore (lv2 := [(6, _), (5, _), (4, _), (0, _), (1, _), (2, _), (3, _)]) dX0_writeRuns_12 (by decide) rfl ?_
  exact aw_lv _ (List.forall_mem_cons.mpr ⟨rfl, (List.forall_mem_cons.mpr ⟨rfl, (List.forall_mem_cons.mpr ⟨rfl, (List.forall_mem_cons.mpr ⟨rfl, (List.forall_mem_cons.mpr ⟨rfl, (List.forall_mem_cons.mpr ⟨rfl, (List.forall_mem_cons.mpr ⟨rfl, fun _ h => absurd h List.not_mem_nil⟩)⟩)⟩)⟩)⟩)⟩)⟩) (lp_ind (Q_X0_writeRuns_14 m0 sh rr r x ww o so sc pl qo pn bm tg px fa hb n) (fun _ _ _ _ _ res hq hF => (hF hq.symm).elim) (fun k hk => b_X0_writeRuns_14 m0 sh rr r x ww o so sc pl qo pn bm tg px fa hb n hr ho  k hk) FU a2 (a2 * (x_w x)) (0 : Int32) (0 : Int32) y _ hE hF)
def P_X4_writeHeader (m0 : Mnt) (sh : Nat → Nat) (rr : Nat → Ras) (r : Nat) (x : Ras) (ww : Nat → Row) (o : Nat) (so : Nat) (sc : Src) (pl : Pal) (qo : Qoi) (pn : Pnm) (bm : Bmp) (tg : Tga) (px : Pcx) (fa : A) (hb : aH) (n : Nat) (res : Out Row Unit) : Option Value → aH → Nat → Prop := fun r1 h2 n2 => ∃ (a : Unit) (s : Row), res = fok a s ∧ r1 = none ∧ h2 = HC m0 sh (va_up rr r x) (va_up ww o s) so sc pl qo pn bm tg px fa hb ∧ n = n2
def F_X4_writeHeader (a1 : Int32) (a2 : Int32) (x : Ras) (y : Row) : Out Row Unit := fon (F_X1_add 10 y) (fun z3 s3 => fon (F_X1_add 5 s3) (fun z8 s8 => fon (F_X1_add 1 s8) (fun z13 s13 => fon (F_X1_add 8 s13) (fun z19 s19 => fon (F_X1_addLow4 0 s19) (fun z24 s24 => fon (F_X1_addLow2 ((x_w x) - 1) s24) (fun z34 s34 => fon (F_X1_addLow2 ((x_g x) - 1) s34) (fun z44 s44 => fon (F_X1_addLow2 72 s44) (fun z50 s50 => fon (F_X1_addLow2 72 s50) (fun z56 s56 => fon (F_X1_addZeros 49 s56) (fun z62 s62 => fon (F_X1_add a1 s62) (fun z67 s67 => fon (F_X1_addLow2 a2 s67) (fun z72 s72 => fon (F_X1_add 1 s72) (fun z77 s77 => fon (F_X1_addZeros 59 s77) (fun z83 s83 => fok () s83) (fun _ _ => fno)) (fun _ _ => fno)) (fun _ _ => fno)) (fun _ _ => fno)) (fun _ _ => fno)) (fun _ _ => fno)) (fun _ _ => fno)) (fun _ _ => fno)) (fun _ _ => fno)) (fun _ _ => fno)) (fun _ _ => fno)) (fun _ _ => fno)) (fun _ _ => fno)) (fun _ _ => fno)
set_option maxHeartbeats 1000000 in
set_option maxRecDepth 100000 in
theorem kF_X4_writeHeader (m0 : Mnt) (sh : Nat → Nat) (rr : Nat → Ras) (r : Nat) (x : Ras) (ww : Nat → Row) (o : Nat) (y : Row) (so : Nat) (sc : Src) (pl : Pal) (qo : Qoi) (pn : Pnm) (bm : Bmp) (tg : Tga) (px : Pcx) (fa : A) (hb : aH) (n : Nat) (hr : isR r) (ho : isW o) (a1 : Int32) (a2 : Int32) (hF : F_X4_writeHeader a1 a2 x y ≠ fno) : AM mX4_writeHeader 4 [.ref r, .int a1, .int a2, .ref o] (HC m0 sh (va_up rr r x) (va_up ww o y) so sc pl qo pn bm tg px fa hb) n 0 0 0 0 (P_X4_writeHeader m0 sh rr r x ww o so sc pl qo pn bm tg px fa hb n (F_X4_writeHeader a1 a2 x y)) (fun _ _ _ => False) := by
  generalize hE : F_X4_writeHeader a1 a2 x y = res at hF ⊢
  refine aw_of (by decide +kernel) rfl (Nat.le_of_ble_eq_true rfl) ?_
  unfold F_X4_writeHeader at hE
  refine aw_aload_n dX4_writeHeader_0 rfl ?_
  refine aw_bipush (v := 10) dX4_writeHeader_1 (by decide) ?_
  refine aw_callV dX4_writeHeader_3 (at_row ho) cvX4_155 rfl (kF_X1_add m0 sh (va_up rr r x) ww o y so sc pl qo pn bm tg px fa hb _ ho 10 (fon_ne hE hF)) rfl (Nat.le_of_ble_eq_true rfl) (by decide) (by decide) (by decide) (by decide) (fun _ _ _ hf => False.elim hf) (fun r3 h3 n3 hp3 => ?_)
  obtain ⟨z3, s3, e3, rfl, rfl, rfl⟩ := hp3
  replace hE := fon_ok e3 hE
  refine aw_aload_n dX4_writeHeader_6 rfl ?_
  refine aw_iconst (v := 5) dX4_writeHeader_7 (by decide) ?_
  refine aw_callV dX4_writeHeader_8 (at_row ho) cvX4_155 rfl (kF_X1_add m0 sh (va_up rr r x) ww o s3 so sc pl qo pn bm tg px fa hb _ ho 5 (fon_ne hE hF)) rfl (Nat.le_of_ble_eq_true rfl) (by decide) (by decide) (by decide) (by decide) (fun _ _ _ hf => False.elim hf) (fun r8 h8 n8 hp8 => ?_)
  obtain ⟨z8, s8, e8, rfl, rfl, rfl⟩ := hp8
  replace hE := fon_ok e8 hE
  refine aw_aload_n dX4_writeHeader_11 rfl ?_
  refine aw_iconst (v := 1) dX4_writeHeader_12 (by decide) ?_
  refine aw_callV dX4_writeHeader_13 (at_row ho) cvX4_155 rfl (kF_X1_add m0 sh (va_up rr r x) ww o s8 so sc pl qo pn bm tg px fa hb _ ho 1 (fon_ne hE hF)) rfl (Nat.le_of_ble_eq_true rfl) (by decide) (by decide) (by decide) (by decide) (fun _ _ _ hf => False.elim hf) (fun r13 h13 n13 hp13 => ?_)
  obtain ⟨z13, s13, e13, rfl, rfl, rfl⟩ := hp13
  replace hE := fon_ok e13 hE
  refine aw_aload_n dX4_writeHeader_16 rfl ?_
  refine aw_bipush (v := 8) dX4_writeHeader_17 (by decide) ?_
  refine aw_callV dX4_writeHeader_19 (at_row ho) cvX4_155 rfl (kF_X1_add m0 sh (va_up rr r x) ww o s13 so sc pl qo pn bm tg px fa hb _ ho 8 (fon_ne hE hF)) rfl (Nat.le_of_ble_eq_true rfl) (by decide) (by decide) (by decide) (by decide) (fun _ _ _ hf => False.elim hf) (fun r19 h19 n19 hp19 => ?_)
  obtain ⟨z19, s19, e19, rfl, rfl, rfl⟩ := hp19
  replace hE := fon_ok e19 hE
  refine aw_aload_n dX4_writeHeader_22 rfl ?_
  refine aw_iconst (v := 0) dX4_writeHeader_23 (by decide) ?_
  refine aw_callV dX4_writeHeader_24 (at_row ho) cvX4_160 rfl (kF_X1_addLow4 m0 sh (va_up rr r x) ww o s19 so sc pl qo pn bm tg px fa hb _ ho 0 (fon_ne hE hF)) rfl (Nat.le_of_ble_eq_true rfl) (by decide) (by decide) (by decide) (by decide) (fun _ _ _ hf => False.elim hf) (fun r24 h24 n24 hp24 => ?_)
  obtain ⟨z24, s24, e24, rfl, rfl, rfl⟩ := hp24
  replace hE := fon_ok e24 hE
  refine aw_aload_n dX4_writeHeader_27 rfl ?_
  refine aw_aload_n dX4_writeHeader_28 rfl ?_
  refine aw_getf (v := .int (x_w x)) dX4_writeHeader_29 flX4_46_6 (at_ras hr) rfl ?_
  refine aw_iconst (v := 1) dX4_writeHeader_32 (by decide) ?_
  refine aw_isub dX4_writeHeader_33 ?_
  refine aw_callV dX4_writeHeader_34 (at_row ho) cvX4_163 rfl (kF_X1_addLow2 m0 sh (va_up rr r x) ww o s24 so sc pl qo pn bm tg px fa hb _ ho ((x_w x) - 1) (fon_ne hE hF)) rfl (Nat.le_of_ble_eq_true rfl) (by decide) (by decide) (by decide) (by decide) (fun _ _ _ hf => False.elim hf) (fun r34 h34 n34 hp34 => ?_)
  obtain ⟨z34, s34, e34, rfl, rfl, rfl⟩ := hp34
  replace hE := fon_ok e34 hE
  refine aw_aload_n dX4_writeHeader_37 rfl ?_
  refine aw_aload_n dX4_writeHeader_38 rfl ?_
  refine aw_getf (v := .int (x_g x)) dX4_writeHeader_39 flX4_58_6 (at_ras hr) rfl ?_
  refine aw_iconst (v := 1) dX4_writeHeader_42 (by decide) ?_
  refine aw_isub dX4_writeHeader_43 ?_
  refine aw_callV dX4_writeHeader_44 (at_row ho) cvX4_163 rfl (kF_X1_addLow2 m0 sh (va_up rr r x) ww o s34 so sc pl qo pn bm tg px fa hb _ ho ((x_g x) - 1) (fon_ne hE hF)) rfl (Nat.le_of_ble_eq_true rfl) (by decide) (by decide) (by decide) (by decide) (fun _ _ _ hf => False.elim hf) (fun r44 h44 n44 hp44 => ?_)
  obtain ⟨z44, s44, e44, rfl, rfl, rfl⟩ := hp44
  replace hE := fon_ok e44 hE
  refine aw_aload_n dX4_writeHeader_47 rfl ?_
  refine aw_bipush (v := 72) dX4_writeHeader_48 (by decide) ?_
  refine aw_callV dX4_writeHeader_50 (at_row ho) cvX4_163 rfl (kF_X1_addLow2 m0 sh (va_up rr r x) ww o s44 so sc pl qo pn bm tg px fa hb _ ho 72 (fon_ne hE hF)) rfl (Nat.le_of_ble_eq_true rfl) (by decide) (by decide) (by decide) (by decide) (fun _ _ _ hf => False.elim hf) (fun r50 h50 n50 hp50 => ?_)
  obtain ⟨z50, s50, e50, rfl, rfl, rfl⟩ := hp50
  replace hE := fon_ok e50 hE
  refine aw_aload_n dX4_writeHeader_53 rfl ?_
  refine aw_bipush (v := 72) dX4_writeHeader_54 (by decide) ?_
  refine aw_callV dX4_writeHeader_56 (at_row ho) cvX4_163 rfl (kF_X1_addLow2 m0 sh (va_up rr r x) ww o s50 so sc pl qo pn bm tg px fa hb _ ho 72 (fon_ne hE hF)) rfl (Nat.le_of_ble_eq_true rfl) (by decide) (by decide) (by decide) (by decide) (fun _ _ _ hf => False.elim hf) (fun r56 h56 n56 hp56 => ?_)
  obtain ⟨z56, s56, e56, rfl, rfl, rfl⟩ := hp56
  replace hE := fon_ok e56 hE
  refine aw_aload_n dX4_writeHeader_59 rfl ?_
  refine aw_bipush (v := 49) dX4_writeHeader_60 (by decide) ?_
  refine aw_callV dX4_writeHeader_62 (at_row ho) cvX4_166 rfl (kF_X1_addZeros m0 sh (va_up rr r x) ww o s56 so sc pl qo pn bm tg px fa hb _ ho 49 (fon_ne hE hF)) rfl (Nat.le_of_ble_eq_true rfl) (by decide) (by decide) (by decide) (by decide) (fun _ _ _ hf => False.elim hf) (fun r62 h62 n62 hp62 => ?_)
  obtain ⟨z62, s62, e62, rfl, rfl, rfl⟩ := hp62
  replace hE := fon_ok e62 hE
  refine aw_aload_n dX4_writeHeader_65 rfl ?_
  refine aw_iload_n dX4_writeHeader_66 rfl ?_
  refine aw_callV dX4_writeHeader_67 (at_row ho) cvX4_155 rfl (kF_X1_add m0 sh (va_up rr r x) ww o s62 so sc pl qo pn bm tg px fa hb _ ho a1 (fon_ne hE hF)) rfl (Nat.le_of_ble_eq_true rfl) (by decide) (by decide) (by decide) (by decide) (fun _ _ _ hf => False.elim hf) (fun r67 h67 n67 hp67 => ?_)
  obtain ⟨z67, s67, e67, rfl, rfl, rfl⟩ := hp67
  replace hE := fon_ok e67 hE
  refine aw_aload_n dX4_writeHeader_70 rfl ?_
  refine aw_iload_n dX4_writeHeader_71 rfl ?_
  refine aw_callV dX4_writeHeader_72 (at_row ho) cvX4_163 rfl (kF_X1_addLow2 m0 sh (va_up rr r x) ww o s67 so sc pl qo pn bm tg px fa hb _ ho a2 (fon_ne hE hF)) rfl (Nat.le_of_ble_eq_true rfl) (by decide) (by decide) (by decide) (by decide) (fun _ _ _ hf => False.elim hf) (fun r72 h72 n72 hp72 => ?_)
  obtain ⟨z72, s72, e72, rfl, rfl, rfl⟩ := hp72
  replace hE := fon_ok e72 hE
  refine aw_aload_n dX4_writeHeader_75 rfl ?_
  refine aw_iconst (v := 1) dX4_writeHeader_76 (by decide) ?_
  refine aw_callV dX4_writeHeader_77 (at_row ho) cvX4_155 rfl (kF_X1_add m0 sh (va_up rr r x) ww o s72 so sc pl qo pn bm tg px fa hb _ ho 1 (fon_ne hE hF)) rfl (Nat.le_of_ble_eq_true rfl) (by decide) (by decide) (by decide) (by decide) (fun _ _ _ hf => False.elim hf) (fun r77 h77 n77 hp77 => ?_)
  obtain ⟨z77, s77, e77, rfl, rfl, rfl⟩ := hp77
  replace hE := fon_ok e77 hE
  refine aw_aload_n dX4_writeHeader_80 rfl ?_
  refine aw_bipush (v := 59) dX4_writeHeader_81 (by decide) ?_
  refine aw_callV dX4_writeHeader_83 (at_row ho) cvX4_166 rfl (kF_X1_addZeros m0 sh (va_up rr r x) ww o s77 so sc pl qo pn bm tg px fa hb _ ho 59 (fon_ne hE hF)) rfl (Nat.le_of_ble_eq_true rfl) (by decide) (by decide) (by decide) (by decide) (fun _ _ _ hf => False.elim hf) (fun r83 h83 n83 hp83 => ?_)
  obtain ⟨z83, s83, e83, rfl, rfl, rfl⟩ := hp83
  replace hE := fon_ok e83 hE
  exact aw_vret dX4_writeHeader_86 rfl (Nat.zero_le _) (Nat.zero_le _) (Nat.zero_le _) (Nat.zero_le _) ⟨_, _, hE.symm, rfl, rfl, rfl⟩
def P_X4_writeLine (m0 : Mnt) (sh : Nat → Nat) (rr : Nat → Ras) (r : Nat) (x : Ras) (ww : Nat → Row) (o : Nat) (so : Nat) (sc : Src) (pl : Pal) (qo : Qoi) (pn : Pnm) (bm : Bmp) (tg : Tga) (px : Pcx) (fa : A) (hb : aH) (n : Nat) (res : Out Row Unit) : Option Value → aH → Nat → Prop := fun r1 h2 n2 => ∃ (a : Unit) (s : Row), res = fok a s ∧ r1 = none ∧ h2 = HC m0 sh (va_up rr r x) (va_up ww o s) so sc pl qo pn bm tg px fa hb ∧ n = n2
abbrev Q_X4_writeLine_16 (m0 : Mnt) (sh : Nat → Nat) (rr : Nat → Ras) (r : Nat) (x : Ras) (ww : Nat → Row) (o : Nat) (so : Nat) (sc : Src) (pl : Pal) (qo : Qoi) (pn : Pnm) (bm : Bmp) (tg : Tga) (px : Pcx) (fa : A) (hb : aH) (n : Nat) (k : Int32 → Int32 → Int32 → Int32 → Int32 → Int32 → Row → Out Row Unit) : Prop := ∀ (v2 : Int32) (v3 : Int32) (v4 : Int32) (v6 : Int32) (v7 : Int32) (v8 : Int32) (y : Row) (res : Out Row Unit), k v2 v3 v4 v6 v7 v8 y = res → res ≠ fno → AW (fun _ _ => True) mX4_writeLine (rmD 4 0 0) 0 0 (P_X4_writeLine m0 sh rr r x ww o so sc pl qo pn bm tg px fa hb n res) (fun _ _ _ => False) 0 0 16 [(0, .ref 28), (1, .ref r), (2, .int v2), (3, .int v3), (4, .int v4), (5, .ref o), (6, .int v6), (7, .int v7), (8, .int v8)] [] (HC m0 sh (va_up rr r x) (va_up ww o y) so sc pl qo pn bm tg px fa hb) n
abbrev Q_X4_writeLine_62 (m0 : Mnt) (sh : Nat → Nat) (rr : Nat → Ras) (r : Nat) (x : Ras) (ww : Nat → Row) (o : Nat) (so : Nat) (sc : Src) (pl : Pal) (qo : Qoi) (pn : Pnm) (bm : Bmp) (tg : Tga) (px : Pcx) (fa : A) (hb : aH) (n : Nat) (k : Int32 → Int32 → Int32 → Int32 → Int32 → Int32 → Int32 → Row → Out Row Unit) : Prop := ∀ (v2 : Int32) (v3 : Int32) (v4 : Int32) (v6 : Int32) (v7 : Int32) (v8 : Int32) (v9 : Int32) (y : Row) (res : Out Row Unit), k v2 v3 v4 v6 v7 v8 v9 y = res → res ≠ fno → AW (fun _ _ => True) mX4_writeLine (rmD 4 0 0) 0 0 (P_X4_writeLine m0 sh rr r x ww o so sc pl qo pn bm tg px fa hb n res) (fun _ _ _ => False) 0 0 62 [(0, .ref 28), (1, .ref r), (2, .int v2), (3, .int v3), (4, .int v4), (5, .ref o), (6, .int v6), (7, .int v7), (8, .int v8), (9, .int v9)] [] (HC m0 sh (va_up rr r x) (va_up ww o y) so sc pl qo pn bm tg px fa hb) n
abbrev Q_X4_writeLine_76 (m0 : Mnt) (sh : Nat → Nat) (rr : Nat → Ras) (r : Nat) (x : Ras) (ww : Nat → Row) (o : Nat) (so : Nat) (sc : Src) (pl : Pal) (qo : Qoi) (pn : Pnm) (bm : Bmp) (tg : Tga) (px : Pcx) (fa : A) (hb : aH) (n : Nat) (k : Int32 → Int32 → Int32 → Int32 → Int32 → Int32 → Int32 → Row → Out Row Unit) : Prop := ∀ (v2 : Int32) (v3 : Int32) (v4 : Int32) (v6 : Int32) (v7 : Int32) (v8 : Int32) (v9 : Int32) (y : Row) (res : Out Row Unit), k v2 v3 v4 v6 v7 v8 v9 y = res → res ≠ fno → AW (fun _ _ => True) mX4_writeLine (rmD 4 0 0) 0 0 (P_X4_writeLine m0 sh rr r x ww o so sc pl qo pn bm tg px fa hb n res) (fun _ _ _ => False) 0 0 76 [(0, .ref 28), (1, .ref r), (2, .int v2), (3, .int v3), (4, .int v4), (5, .ref o), (6, .int v6), (7, .int v7), (8, .int v8), (9, .int v9)] [] (HC m0 sh (va_up rr r x) (va_up ww o y) so sc pl qo pn bm tg px fa hb) n
abbrev Q_X4_writeLine_87 (m0 : Mnt) (sh : Nat → Nat) (rr : Nat → Ras) (r : Nat) (x : Ras) (ww : Nat → Row) (o : Nat) (so : Nat) (sc : Src) (pl : Pal) (qo : Qoi) (pn : Pnm) (bm : Bmp) (tg : Tga) (px : Pcx) (fa : A) (hb : aH) (n : Nat) (k : Int32 → Int32 → Int32 → Int32 → Int32 → Int32 → Row → Out Row Unit) : Prop := ∀ (v2 : Int32) (v3 : Int32) (v4 : Int32) (v6 : Int32) (v8 : Int32) (v9 : Int32) (y : Row) (res : Out Row Unit), k v2 v3 v4 v6 v8 v9 y = res → res ≠ fno → AW (fun _ _ => True) mX4_writeLine (rmD 4 0 0) 0 0 (P_X4_writeLine m0 sh rr r x ww o so sc pl qo pn bm tg px fa hb n res) (fun _ _ _ => False) 0 0 87 [(0, .ref 28), (1, .ref r), (2, .int v2), (3, .int v3), (4, .int v4), (5, .ref o), (6, .int v6), (8, .int v8), (9, .int v9)] [] (HC m0 sh (va_up rr r x) (va_up ww o y) so sc pl qo pn bm tg px fa hb) n
abbrev Q_X4_writeLine_97 (m0 : Mnt) (sh : Nat → Nat) (rr : Nat → Ras) (r : Nat) (x : Ras) (ww : Nat → Row) (o : Nat) (so : Nat) (sc : Src) (pl : Pal) (qo : Qoi) (pn : Pnm) (bm : Bmp) (tg : Tga) (px : Pcx) (fa : A) (hb : aH) (n : Nat) (k : Int32 → Int32 → Int32 → Int32 → Int32 → Int32 → Row → Out Row Unit) : Prop := ∀ (v2 : Int32) (v3 : Int32) (v4 : Int32) (v7 : Int32) (v8 : Int32) (v9 : Int32) (y : Row) (res : Out Row Unit), k v2 v3 v4 v7 v8 v9 y = res → res ≠ fno → AW (fun _ _ => True) mX4_writeLine (rmD 4 0 0) 0 0 (P_X4_writeLine m0 sh rr r x ww o so sc pl qo pn bm tg px fa hb n res) (fun _ _ _ => False) 0 0 97 [(0, .ref 28), (1, .ref r), (2, .int v2), (3, .int v3), (4, .int v4), (5, .ref o), (7, .int v7), (8, .int v8), (9, .int v9)] [] (HC m0 sh (va_up rr r x) (va_up ww o y) so sc pl qo pn bm tg px fa hb) n
def F_X4_writeLine_97 (x : Ras) (pl : Pal) (k16 : Int32 → Int32 → Int32 → Int32 → Int32 → Int32 → Row → Out Row Unit) (v2 : Int32) (v3 : Int32) (v4 : Int32) (v7 : Int32) (v8 : Int32) (v9 : Int32) (y : Row) : Out Row Unit := k16 v2 v3 v4 v9 v7 (v8 + 1) y
set_option maxHeartbeats 1000000 in
set_option maxRecDepth 100000 in
theorem b_X4_writeLine_97 (m0 : Mnt) (sh : Nat → Nat) (rr : Nat → Ras) (r : Nat) (x : Ras) (ww : Nat → Row) (o : Nat) (so : Nat) (sc : Src) (pl : Pal) (qo : Qoi) (pn : Pnm) (bm : Bmp) (tg : Tga) (px : Pcx) (fa : A) (hb : aH) (n : Nat) (hr : isR r) (ho : isW o) (k16 : Int32 → Int32 → Int32 → Int32 → Int32 → Int32 → Row → Out Row Unit) (hk16 : Q_X4_writeLine_16 m0 sh rr r x ww o so sc pl qo pn bm tg px fa hb n k16) : Q_X4_writeLine_97 m0 sh rr r x ww o so sc pl qo pn bm tg px fa hb n (F_X4_writeLine_97 x pl k16) := by
  intro v2 v3 v4 v7 v8 v9 y res hE hF
  unfold F_X4_writeLine_97 at hE
  refine aw_iload dX4_writeLine_97 rfl ?_
  refine aw_istore (lv2 := [(6, _), (0, _), (1, _), (2, _), (3, _), (4, _), (5, _), (7, _), (8, _), (9, _)]) dX4_writeLine_99 (by decide) rfl ?_
  refine aw_iinc (v := (v8 + 1)) (lv2 := [(8, _), (6, _), (0, _), (1, _), (2, _), (3, _), (4, _), (5, _), (7, _), (9, _)]) dX4_writeLine_101 rfl (incE (by decide)) (by decide) rfl ?_
  refine aw_goto (tgt := 16) dX4_writeLine_104 (by decide) ?_
  exact aw_lv _ (List.forall_mem_cons.mpr ⟨rfl, (List.forall_mem_cons.mpr ⟨rfl, (List.forall_mem_cons.mpr ⟨rfl, (List.forall_mem_cons.mpr ⟨rfl, (List.forall_mem_cons.mpr ⟨rfl, (List.forall_mem_cons.mpr ⟨rfl, (List.forall_mem_cons.mpr ⟨rfl, (List.forall_mem_cons.mpr ⟨rfl, (List.forall_mem_cons.mpr ⟨rfl, fun _ h => absurd h List.not_mem_nil⟩)⟩)⟩)⟩)⟩)⟩)⟩)⟩)⟩) (hk16 v2 v3 v4 v9 v7 (v8 + 1) y _ hE hF)
def F_X4_writeLine_87 (x : Ras) (pl : Pal) (k16 : Int32 → Int32 → Int32 → Int32 → Int32 → Int32 → Row → Out Row Unit) (v2 : Int32) (v3 : Int32) (v4 : Int32) (v6 : Int32) (v8 : Int32) (v9 : Int32) (y : Row) : Out Row Unit := fon (F_X1_add v6 y) (fun z91 s91 => F_X4_writeLine_97 x pl k16 v2 v3 v4 (0 : Int32) v8 v9 s91) (fun _ _ => fno)
set_option maxHeartbeats 1000000 in
set_option maxRecDepth 100000 in
theorem b_X4_writeLine_87 (m0 : Mnt) (sh : Nat → Nat) (rr : Nat → Ras) (r : Nat) (x : Ras) (ww : Nat → Row) (o : Nat) (so : Nat) (sc : Src) (pl : Pal) (qo : Qoi) (pn : Pnm) (bm : Bmp) (tg : Tga) (px : Pcx) (fa : A) (hb : aH) (n : Nat) (hr : isR r) (ho : isW o) (k16 : Int32 → Int32 → Int32 → Int32 → Int32 → Int32 → Row → Out Row Unit) (hk16 : Q_X4_writeLine_16 m0 sh rr r x ww o so sc pl qo pn bm tg px fa hb n k16) : Q_X4_writeLine_87 m0 sh rr r x ww o so sc pl qo pn bm tg px fa hb n (F_X4_writeLine_87 x pl k16) := by
  intro v2 v3 v4 v6 v8 v9 y res hE hF
  unfold F_X4_writeLine_87 at hE
  refine aw_aload dX4_writeLine_87 rfl ?_
  refine aw_iload dX4_writeLine_89 rfl ?_
  refine aw_callV dX4_writeLine_91 (at_row ho) cvX4_155 rfl (kF_X1_add m0 sh (va_up rr r x) ww o y so sc pl qo pn bm tg px fa hb _ ho v6 (fon_ne hE hF)) rfl (Nat.le_of_ble_eq_true rfl) (by decide) (by decide) (by decide) (by decide) (fun _ _ _ hf => False.elim hf) (fun r91 h91 n91 hp91 => ?_)
  obtain ⟨z91, s91, e91, rfl, rfl, rfl⟩ := hp91
  replace hE := fon_ok e91 hE
  refine aw_iconst (v := 0) dX4_writeLine_94 (by decide) ?_
  refine aw_istore (lv2 := [(7, _), (0, _), (1, _), (2, _), (3, _), (4, _), (5, _), (6, _), (8, _), (9, _)]) dX4_writeLine_95 (by decide) rfl ?_
  exact aw_lv _ (List.forall_mem_cons.mpr ⟨rfl, (List.forall_mem_cons.mpr ⟨rfl, (List.forall_mem_cons.mpr ⟨rfl, (List.forall_mem_cons.mpr ⟨rfl, (List.forall_mem_cons.mpr ⟨rfl, (List.forall_mem_cons.mpr ⟨rfl, (List.forall_mem_cons.mpr ⟨rfl, (List.forall_mem_cons.mpr ⟨rfl, (List.forall_mem_cons.mpr ⟨rfl, fun _ h => absurd h List.not_mem_nil⟩)⟩)⟩)⟩)⟩)⟩)⟩)⟩)⟩) (b_X4_writeLine_97 m0 sh rr r x ww o so sc pl qo pn bm tg px fa hb n hr ho k16 hk16 v2 v3 v4 (0 : Int32) v8 v9 s91 _ hE hF)
def F_X4_writeLine_76 (x : Ras) (pl : Pal) (k16 : Int32 → Int32 → Int32 → Int32 → Int32 → Int32 → Row → Out Row Unit) (v2 : Int32) (v3 : Int32) (v4 : Int32) (v6 : Int32) (v7 : Int32) (v8 : Int32) (v9 : Int32) (y : Row) : Out Row Unit := fon (F_X1_add (192 + v7) y) (fun z84 s84 => F_X4_writeLine_87 x pl k16 v2 v3 v4 v6 v8 v9 s84) (fun _ _ => fno)
set_option maxHeartbeats 1000000 in
set_option maxRecDepth 100000 in
theorem b_X4_writeLine_76 (m0 : Mnt) (sh : Nat → Nat) (rr : Nat → Ras) (r : Nat) (x : Ras) (ww : Nat → Row) (o : Nat) (so : Nat) (sc : Src) (pl : Pal) (qo : Qoi) (pn : Pnm) (bm : Bmp) (tg : Tga) (px : Pcx) (fa : A) (hb : aH) (n : Nat) (hr : isR r) (ho : isW o) (k16 : Int32 → Int32 → Int32 → Int32 → Int32 → Int32 → Row → Out Row Unit) (hk16 : Q_X4_writeLine_16 m0 sh rr r x ww o so sc pl qo pn bm tg px fa hb n k16) : Q_X4_writeLine_76 m0 sh rr r x ww o so sc pl qo pn bm tg px fa hb n (F_X4_writeLine_76 x pl k16) := by
  intro v2 v3 v4 v6 v7 v8 v9 y res hE hF
  unfold F_X4_writeLine_76 at hE
  refine aw_aload dX4_writeLine_76 rfl ?_
  refine aw_sipush (v := 192) dX4_writeLine_78 (by decide) ?_
  refine aw_iload dX4_writeLine_81 rfl ?_
  refine aw_iadd dX4_writeLine_83 ?_
  refine aw_callV dX4_writeLine_84 (at_row ho) cvX4_155 rfl (kF_X1_add m0 sh (va_up rr r x) ww o y so sc pl qo pn bm tg px fa hb _ ho (192 + v7) (fon_ne hE hF)) rfl (Nat.le_of_ble_eq_true rfl) (by decide) (by decide) (by decide) (by decide) (fun _ _ _ hf => False.elim hf) (fun r84 h84 n84 hp84 => ?_)
  obtain ⟨z84, s84, e84, rfl, rfl, rfl⟩ := hp84
  replace hE := fon_ok e84 hE
  exact aw_lv _ (List.forall_mem_cons.mpr ⟨rfl, (List.forall_mem_cons.mpr ⟨rfl, (List.forall_mem_cons.mpr ⟨rfl, (List.forall_mem_cons.mpr ⟨rfl, (List.forall_mem_cons.mpr ⟨rfl, (List.forall_mem_cons.mpr ⟨rfl, (List.forall_mem_cons.mpr ⟨rfl, (List.forall_mem_cons.mpr ⟨rfl, (List.forall_mem_cons.mpr ⟨rfl, fun _ h => absurd h List.not_mem_nil⟩)⟩)⟩)⟩)⟩)⟩)⟩)⟩)⟩) (b_X4_writeLine_87 m0 sh rr r x ww o so sc pl qo pn bm tg px fa hb n hr ho k16 hk16 v2 v3 v4 v6 v8 v9 s84 _ hE hF)
def F_X4_writeLine_62 (x : Ras) (pl : Pal) (k16 : Int32 → Int32 → Int32 → Int32 → Int32 → Int32 → Row → Out Row Unit) (v2 : Int32) (v3 : Int32) (v4 : Int32) (v6 : Int32) (v7 : Int32) (v8 : Int32) (v9 : Int32) (y : Row) : Out Row Unit := if 1 < v7 then (F_X4_writeLine_76 x pl k16 v2 v3 v4 v6 v7 v8 v9 y) else (if v6 < 192 then (F_X4_writeLine_87 x pl k16 v2 v3 v4 v6 v8 v9 y) else (F_X4_writeLine_76 x pl k16 v2 v3 v4 v6 v7 v8 v9 y))
set_option maxHeartbeats 1000000 in
set_option maxRecDepth 100000 in
theorem b_X4_writeLine_62 (m0 : Mnt) (sh : Nat → Nat) (rr : Nat → Ras) (r : Nat) (x : Ras) (ww : Nat → Row) (o : Nat) (so : Nat) (sc : Src) (pl : Pal) (qo : Qoi) (pn : Pnm) (bm : Bmp) (tg : Tga) (px : Pcx) (fa : A) (hb : aH) (n : Nat) (hr : isR r) (ho : isW o) (k16 : Int32 → Int32 → Int32 → Int32 → Int32 → Int32 → Row → Out Row Unit) (hk16 : Q_X4_writeLine_16 m0 sh rr r x ww o so sc pl qo pn bm tg px fa hb n k16) : Q_X4_writeLine_62 m0 sh rr r x ww o so sc pl qo pn bm tg px fa hb n (F_X4_writeLine_62 x pl k16) := by
  intro v2 v3 v4 v6 v7 v8 v9 y res hE hF
  unfold F_X4_writeLine_62 at hE
  refine aw_iload dX4_writeLine_62 rfl ?_
  refine aw_iconst (v := 1) dX4_writeLine_64 (by decide) ?_
  refine aw_icmp_gt (tgt := 76) dX4_writeLine_65 (by decide) (fun c65 => ?_) (fun c65 => ?_)
  · replace hE := fit hE c65
    exact aw_lv _ (List.forall_mem_cons.mpr ⟨rfl, (List.forall_mem_cons.mpr ⟨rfl, (List.forall_mem_cons.mpr ⟨rfl, (List.forall_mem_cons.mpr ⟨rfl, (List.forall_mem_cons.mpr ⟨rfl, (List.forall_mem_cons.mpr ⟨rfl, (List.forall_mem_cons.mpr ⟨rfl, (List.forall_mem_cons.mpr ⟨rfl, (List.forall_mem_cons.mpr ⟨rfl, (List.forall_mem_cons.mpr ⟨rfl, fun _ h => absurd h List.not_mem_nil⟩)⟩)⟩)⟩)⟩)⟩)⟩)⟩)⟩)⟩) (b_X4_writeLine_76 m0 sh rr r x ww o so sc pl qo pn bm tg px fa hb n hr ho k16 hk16 v2 v3 v4 v6 v7 v8 v9 y _ hE hF)
  · replace hE := fif hE c65
    refine aw_iload dX4_writeLine_68 rfl ?_
    refine aw_sipush (v := 192) dX4_writeLine_70 (by decide) ?_
    refine aw_icmp_lt (tgt := 87) dX4_writeLine_73 (by decide) (fun c73 => ?_) (fun c73 => ?_)
    · replace hE := fit hE c73
      exact aw_lv _ (List.forall_mem_cons.mpr ⟨rfl, (List.forall_mem_cons.mpr ⟨rfl, (List.forall_mem_cons.mpr ⟨rfl, (List.forall_mem_cons.mpr ⟨rfl, (List.forall_mem_cons.mpr ⟨rfl, (List.forall_mem_cons.mpr ⟨rfl, (List.forall_mem_cons.mpr ⟨rfl, (List.forall_mem_cons.mpr ⟨rfl, (List.forall_mem_cons.mpr ⟨rfl, fun _ h => absurd h List.not_mem_nil⟩)⟩)⟩)⟩)⟩)⟩)⟩)⟩)⟩) (b_X4_writeLine_87 m0 sh rr r x ww o so sc pl qo pn bm tg px fa hb n hr ho k16 hk16 v2 v3 v4 v6 v8 v9 y _ hE hF)
    · replace hE := fif hE c73
      exact aw_lv _ (List.forall_mem_cons.mpr ⟨rfl, (List.forall_mem_cons.mpr ⟨rfl, (List.forall_mem_cons.mpr ⟨rfl, (List.forall_mem_cons.mpr ⟨rfl, (List.forall_mem_cons.mpr ⟨rfl, (List.forall_mem_cons.mpr ⟨rfl, (List.forall_mem_cons.mpr ⟨rfl, (List.forall_mem_cons.mpr ⟨rfl, (List.forall_mem_cons.mpr ⟨rfl, (List.forall_mem_cons.mpr ⟨rfl, fun _ h => absurd h List.not_mem_nil⟩)⟩)⟩)⟩)⟩)⟩)⟩)⟩)⟩)⟩) (b_X4_writeLine_76 m0 sh rr r x ww o so sc pl qo pn bm tg px fa hb n hr ho k16 hk16 v2 v3 v4 v6 v7 v8 v9 y _ hE hF)
def F_X4_writeLine_16 (x : Ras) (pl : Pal) (k16 : Int32 → Int32 → Int32 → Int32 → Int32 → Int32 → Row → Out Row Unit) (v2 : Int32) (v3 : Int32) (v4 : Int32) (v6 : Int32) (v7 : Int32) (v8 : Int32) (y : Row) : Out Row Unit := if v4 ≤ v8 then (fok () y) else (fon (F_X4_sampleAt v2 v3 (v8 + 1) x pl) (fun z34 s34 => if v8 = (v4 - 1) then (F_X4_writeLine_62 x pl k16 v2 v3 v4 v6 (v7 + 1) v8 z34 y) else (if z34 = v6 then (if (v7 + 1) = 63 then (F_X4_writeLine_62 x pl k16 v2 v3 v4 v6 (v7 + 1) v8 z34 y) else (F_X4_writeLine_97 x pl k16 v2 v3 v4 (v7 + 1) v8 z34 y)) else (F_X4_writeLine_62 x pl k16 v2 v3 v4 v6 (v7 + 1) v8 z34 y))) (fun _ _ => fno))
set_option maxHeartbeats 1000000 in
set_option maxRecDepth 100000 in
theorem b_X4_writeLine_16 (m0 : Mnt) (sh : Nat → Nat) (rr : Nat → Ras) (r : Nat) (x : Ras) (ww : Nat → Row) (o : Nat) (so : Nat) (sc : Src) (pl : Pal) (qo : Qoi) (pn : Pnm) (bm : Bmp) (tg : Tga) (px : Pcx) (fa : A) (hb : aH) (n : Nat) (hr : isR r) (ho : isW o) (k16 : Int32 → Int32 → Int32 → Int32 → Int32 → Int32 → Row → Out Row Unit) (hk16 : Q_X4_writeLine_16 m0 sh rr r x ww o so sc pl qo pn bm tg px fa hb n k16) : Q_X4_writeLine_16 m0 sh rr r x ww o so sc pl qo pn bm tg px fa hb n (F_X4_writeLine_16 x pl k16) := by
  intro v2 v3 v4 v6 v7 v8 y res hE hF
  unfold F_X4_writeLine_16 at hE
  refine aw_iload dX4_writeLine_16 rfl ?_
  refine aw_iload dX4_writeLine_18 rfl ?_
  refine aw_icmp_ge (tgt := 107) dX4_writeLine_20 (by decide) (fun c20 => ?_) (fun c20 => ?_)
  · replace hE := fit hE c20
    exact aw_vret dX4_writeLine_107 rfl (Nat.zero_le _) (Nat.zero_le _) (Nat.zero_le _) (Nat.zero_le _) ⟨_, _, hE.symm, rfl, rfl, rfl⟩
  · replace hE := fif hE c20
    refine aw_iinc (v := (v7 + 1)) (lv2 := [(7, _), (0, _), (1, _), (2, _), (3, _), (4, _), (5, _), (6, _), (8, _)]) dX4_writeLine_23 rfl (incE (by decide)) (by decide) rfl ?_
    refine aw_aload_n dX4_writeLine_26 rfl ?_
    refine aw_aload_n dX4_writeLine_27 rfl ?_
    refine aw_iload_n dX4_writeLine_28 rfl ?_
    refine aw_iload_n dX4_writeLine_29 rfl ?_
    refine aw_iload dX4_writeLine_30 rfl ?_
    refine aw_iconst (v := 1) dX4_writeLine_32 (by decide) ?_
    refine aw_iadd dX4_writeLine_33 ?_
    refine aw_callV dX4_writeLine_34 at_pcx cvX4_169 rfl (kF_X4_sampleAt m0 sh rr r x (va_up ww o y) so sc pl qo pn bm tg px fa hb _ hr v2 v3 (v8 + 1) (fon_ne hE hF)) rfl (Nat.le_of_ble_eq_true rfl) (by decide) (by decide) (by decide) (by decide) (fun _ _ _ hf => False.elim hf) (fun r34 h34 n34 hp34 => ?_)
    obtain ⟨z34, s34, e34, rfl, rfl, rfl⟩ := hp34
    replace hE := fon_ok e34 hE
    refine aw_istore (lv2 := [(9, _), (7, _), (0, _), (1, _), (2, _), (3, _), (4, _), (5, _), (6, _), (8, _)]) dX4_writeLine_37 (by decide) rfl ?_
    refine aw_iload dX4_writeLine_39 rfl ?_
    refine aw_iload dX4_writeLine_41 rfl ?_
    refine aw_iconst (v := 1) dX4_writeLine_43 (by decide) ?_
    refine aw_isub dX4_writeLine_44 ?_
    refine aw_icmp_eq (tgt := 62) dX4_writeLine_45 (by decide) (fun c45 => ?_) (fun c45 => ?_)
    · replace hE := fit hE c45
      exact aw_lv _ (List.forall_mem_cons.mpr ⟨rfl, (List.forall_mem_cons.mpr ⟨rfl, (List.forall_mem_cons.mpr ⟨rfl, (List.forall_mem_cons.mpr ⟨rfl, (List.forall_mem_cons.mpr ⟨rfl, (List.forall_mem_cons.mpr ⟨rfl, (List.forall_mem_cons.mpr ⟨rfl, (List.forall_mem_cons.mpr ⟨rfl, (List.forall_mem_cons.mpr ⟨rfl, (List.forall_mem_cons.mpr ⟨rfl, fun _ h => absurd h List.not_mem_nil⟩)⟩)⟩)⟩)⟩)⟩)⟩)⟩)⟩)⟩) (b_X4_writeLine_62 m0 sh rr r x ww o so sc pl qo pn bm tg px fa hb n hr ho k16 hk16 v2 v3 v4 v6 (v7 + 1) v8 z34 y _ hE hF)
    · replace hE := fif hE c45
      refine aw_iload dX4_writeLine_48 rfl ?_
      refine aw_iload dX4_writeLine_50 rfl ?_
      refine aw_icmp_ne (tgt := 62) dX4_writeLine_52 (by decide) (fun c52 => ?_) (fun c52 => ?_)
      · replace hE := fif hE c52
        exact aw_lv _ (List.forall_mem_cons.mpr ⟨rfl, (List.forall_mem_cons.mpr ⟨rfl, (List.forall_mem_cons.mpr ⟨rfl, (List.forall_mem_cons.mpr ⟨rfl, (List.forall_mem_cons.mpr ⟨rfl, (List.forall_mem_cons.mpr ⟨rfl, (List.forall_mem_cons.mpr ⟨rfl, (List.forall_mem_cons.mpr ⟨rfl, (List.forall_mem_cons.mpr ⟨rfl, (List.forall_mem_cons.mpr ⟨rfl, fun _ h => absurd h List.not_mem_nil⟩)⟩)⟩)⟩)⟩)⟩)⟩)⟩)⟩)⟩) (b_X4_writeLine_62 m0 sh rr r x ww o so sc pl qo pn bm tg px fa hb n hr ho k16 hk16 v2 v3 v4 v6 (v7 + 1) v8 z34 y _ hE hF)
      · replace hE := fit hE c52
        refine aw_iload dX4_writeLine_55 rfl ?_
        refine aw_bipush (v := 63) dX4_writeLine_57 (by decide) ?_
        refine aw_icmp_ne (tgt := 97) dX4_writeLine_59 (by decide) (fun c59 => ?_) (fun c59 => ?_)
        · replace hE := fif hE c59
          exact aw_lv _ (List.forall_mem_cons.mpr ⟨rfl, (List.forall_mem_cons.mpr ⟨rfl, (List.forall_mem_cons.mpr ⟨rfl, (List.forall_mem_cons.mpr ⟨rfl, (List.forall_mem_cons.mpr ⟨rfl, (List.forall_mem_cons.mpr ⟨rfl, (List.forall_mem_cons.mpr ⟨rfl, (List.forall_mem_cons.mpr ⟨rfl, (List.forall_mem_cons.mpr ⟨rfl, fun _ h => absurd h List.not_mem_nil⟩)⟩)⟩)⟩)⟩)⟩)⟩)⟩)⟩) (b_X4_writeLine_97 m0 sh rr r x ww o so sc pl qo pn bm tg px fa hb n hr ho k16 hk16 v2 v3 v4 (v7 + 1) v8 z34 y _ hE hF)
        · replace hE := fit hE c59
          exact aw_lv _ (List.forall_mem_cons.mpr ⟨rfl, (List.forall_mem_cons.mpr ⟨rfl, (List.forall_mem_cons.mpr ⟨rfl, (List.forall_mem_cons.mpr ⟨rfl, (List.forall_mem_cons.mpr ⟨rfl, (List.forall_mem_cons.mpr ⟨rfl, (List.forall_mem_cons.mpr ⟨rfl, (List.forall_mem_cons.mpr ⟨rfl, (List.forall_mem_cons.mpr ⟨rfl, (List.forall_mem_cons.mpr ⟨rfl, fun _ h => absurd h List.not_mem_nil⟩)⟩)⟩)⟩)⟩)⟩)⟩)⟩)⟩)⟩) (b_X4_writeLine_62 m0 sh rr r x ww o so sc pl qo pn bm tg px fa hb n hr ho k16 hk16 v2 v3 v4 v6 (v7 + 1) v8 z34 y _ hE hF)
def F_X4_writeLine (a2 : Int32) (a3 : Int32) (a4 : Int32) (x : Ras) (y : Row) (pl : Pal) : Out Row Unit := fon (F_X4_sampleAt a2 a3 0 x pl) (fun z5 s5 => lp (fun _ _ _ _ _ _ _ => fno) (F_X4_writeLine_16 x pl) FU a2 a3 a4 z5 (0 : Int32) (0 : Int32) y) (fun _ _ => fno)
set_option maxHeartbeats 1000000 in
set_option maxRecDepth 100000 in
theorem kF_X4_writeLine (m0 : Mnt) (sh : Nat → Nat) (rr : Nat → Ras) (r : Nat) (x : Ras) (ww : Nat → Row) (o : Nat) (y : Row) (so : Nat) (sc : Src) (pl : Pal) (qo : Qoi) (pn : Pnm) (bm : Bmp) (tg : Tga) (px : Pcx) (fa : A) (hb : aH) (n : Nat) (hr : isR r) (ho : isW o) (a2 : Int32) (a3 : Int32) (a4 : Int32) (hF : F_X4_writeLine a2 a3 a4 x y pl ≠ fno) : AM mX4_writeLine 4 [.ref 28, .ref r, .int a2, .int a3, .int a4, .ref o] (HC m0 sh (va_up rr r x) (va_up ww o y) so sc pl qo pn bm tg px fa hb) n 0 0 0 0 (P_X4_writeLine m0 sh rr r x ww o so sc pl qo pn bm tg px fa hb n (F_X4_writeLine a2 a3 a4 x y pl)) (fun _ _ _ => False) := by
  generalize hE : F_X4_writeLine a2 a3 a4 x y pl = res at hF ⊢
  refine aw_of (by decide +kernel) rfl (Nat.le_of_ble_eq_true rfl) ?_
  unfold F_X4_writeLine at hE
  refine aw_aload_n dX4_writeLine_0 rfl ?_
  refine aw_aload_n dX4_writeLine_1 rfl ?_
  refine aw_iload_n dX4_writeLine_2 rfl ?_
  refine aw_iload_n dX4_writeLine_3 rfl ?_
  refine aw_iconst (v := 0) dX4_writeLine_4 (by decide) ?_
  refine aw_callV dX4_writeLine_5 at_pcx cvX4_169 rfl (kF_X4_sampleAt m0 sh rr r x (va_up ww o y) so sc pl qo pn bm tg px fa hb _ hr a2 a3 0 (fon_ne hE hF)) rfl (Nat.le_of_ble_eq_true rfl) (by decide) (by decide) (by decide) (by decide) (fun _ _ _ hf => False.elim hf) (fun r5 h5 n5 hp5 => ?_)
  obtain ⟨z5, s5, e5, rfl, rfl, rfl⟩ := hp5
  replace hE := fon_ok e5 hE
  refine aw_istore (lv2 := [(6, _), (0, _), (1, _), (2, _), (3, _), (4, _), (5, _)]) dX4_writeLine_8 (by decide) rfl ?_
  refine aw_iconst (v := 0) dX4_writeLine_10 (by decide) ?_
  refine aw_istore (lv2 := [(7, _), (6, _), (0, _), (1, _), (2, _), (3, _), (4, _), (5, _)]) dX4_writeLine_11 (by decide) rfl ?_
  refine aw_iconst (v := 0) dX4_writeLine_13 (by decide) ?_
  refine aw_istore (lv2 := [(8, _), (7, _), (6, _), (0, _), (1, _), (2, _), (3, _), (4, _), (5, _)]) dX4_writeLine_14 (by decide) rfl ?_
  exact aw_lv _ (List.forall_mem_cons.mpr ⟨rfl, (List.forall_mem_cons.mpr ⟨rfl, (List.forall_mem_cons.mpr ⟨rfl, (List.forall_mem_cons.mpr ⟨rfl, (List.forall_mem_cons.mpr ⟨rfl, (List.forall_mem_cons.mpr ⟨rfl, (List.forall_mem_cons.mpr ⟨rfl, (List.forall_mem_cons.mpr ⟨rfl, (List.forall_mem_cons.mpr ⟨rfl, fun _ h => absurd h List.not_mem_nil⟩)⟩)⟩)⟩)⟩)⟩)⟩)⟩)⟩) (lp_ind (Q_X4_writeLine_16 m0 sh rr r x ww o so sc pl qo pn bm tg px fa hb n) (fun _ _ _ _ _ _ _ res hq hF => (hF hq.symm).elim) (fun k hk => b_X4_writeLine_16 m0 sh rr r x ww o so sc pl qo pn bm tg px fa hb n hr ho  k hk) FU a2 a3 a4 z5 (0 : Int32) (0 : Int32) y _ hE hF)
