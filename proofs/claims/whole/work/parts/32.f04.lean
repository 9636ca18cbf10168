def P_X0_askLayout (m0 : Mnt) (sh : Nat → Nat) (rr : Nat → Ras) (ww : Nat → Row) (so : Nat) (pl : Pal) (qo : Qoi) (pn : Pnm) (bm : Bmp) (tg : Tga) (px : Pcx) (fa : A) (hb : aH) (n : Nat) (res : Out Src Unit) : Option Value → aH → Nat → Prop := fun r1 h2 n2 => ∃ (a : Unit) (s : Src), res = fok a s ∧ r1 = none ∧ h2 = HC m0 sh rr ww so s pl qo pn bm tg px fa hb ∧ n = n2
def X_X0_askLayout (m0 : Mnt) (sh : Nat → Nat) (rr : Nat → Ras) (ww : Nat → Row) (so : Nat) (pl : Pal) (qo : Qoi) (pn : Pnm) (bm : Bmp) (tg : Tga) (px : Pcx) (fa : A) (hb : aH) (n : Nat) (res : Out Src Unit) : String → aH → Nat → Prop := fun E h2 n2 => ∃ s : Src, res = fex E s ∧ h2 = HC m0 sh rr ww so s pl qo pn bm tg px fa hb ∧ n = n2
abbrev Q_X0_askLayout_21 (m0 : Mnt) (sh : Nat → Nat) (rr : Nat → Ras) (ww : Nat → Row) (so : Nat) (pl : Pal) (qo : Qoi) (pn : Pnm) (bm : Bmp) (tg : Tga) (px : Pcx) (fa : A) (hb : aH) (n : Nat) (k : Src → Out Src Unit) : Prop := ∀ (sc : Src) (res : Out Src Unit), k sc = res → res ≠ fno → AW (fun _ _ => True) mX0_askLayout (rmD 4 1 6) 0 0 (P_X0_askLayout m0 sh rr ww so pl qo pn bm tg px fa hb n res) (X_X0_askLayout m0 sh rr ww so pl qo pn bm tg px fa hb n res) 0 0 21 [(1, .ref 16)] [] (HC m0 sh rr ww so sc pl qo pn bm tg px fa hb) n
abbrev Q_X0_askLayout_43 (m0 : Mnt) (sh : Nat → Nat) (rr : Nat → Ras) (ww : Nat → Row) (so : Nat) (pl : Pal) (qo : Qoi) (pn : Pnm) (bm : Bmp) (tg : Tga) (px : Pcx) (fa : A) (hb : aH) (n : Nat) (k : Int32 → Int32 → Src → Out Src Unit) : Prop := ∀ (v2 : Int32) (v3 : Int32) (sc : Src) (res : Out Src Unit), k v2 v3 sc = res → res ≠ fno → AW (fun _ _ => True) mX0_askLayout (rmD 4 1 6) 0 0 (P_X0_askLayout m0 sh rr ww so pl qo pn bm tg px fa hb n res) (X_X0_askLayout m0 sh rr ww so pl qo pn bm tg px fa hb n res) 0 0 43 [(1, .ref 16), (2, .int v2), (3, .int v3)] [] (HC m0 sh rr ww so sc pl qo pn bm tg px fa hb) n
abbrev Q_X0_askLayout_44 (m0 : Mnt) (sh : Nat → Nat) (rr : Nat → Ras) (ww : Nat → Row) (so : Nat) (pl : Pal) (qo : Qoi) (pn : Pnm) (bm : Bmp) (tg : Tga) (px : Pcx) (fa : A) (hb : aH) (n : Nat) (k : Int32 → Int32 → Int32 → Src → Out Src Unit) : Prop := ∀ (v2 : Int32) (v3 : Int32) (t0 : Int32) (sc : Src) (res : Out Src Unit), k v2 v3 t0 sc = res → res ≠ fno → AW (fun _ _ => True) mX0_askLayout (rmD 4 1 6) 0 0 (P_X0_askLayout m0 sh rr ww so pl qo pn bm tg px fa hb n res) (X_X0_askLayout m0 sh rr ww so pl qo pn bm tg px fa hb n res) 0 0 44 [(1, .ref 16), (2, .int v2), (3, .int v3)] [.int t0] (HC m0 sh rr ww so sc pl qo pn bm tg px fa hb) n
def F_X0_askLayout_44 (bm : Bmp)  (v2 : Int32) (v3 : Int32) (t0 : Int32) (sc : Src) : Out Src Unit := if v3 = ((sc_size sc) - v2) then (fok () sc) else (if t0 = 0 then (fon (F_X8_refuse 2 34 sc) (fun _ _ => fno) (fun E s65 => fex E s65)) else (fok () sc))
set_option maxHeartbeats 1000000 in
set_option maxRecDepth 100000 in
theorem b_X0_askLayout_44 (m0 : Mnt) (sh : Nat → Nat) (rr : Nat → Ras) (ww : Nat → Row) (so : Nat) (pl : Pal) (qo : Qoi) (pn : Pnm) (bm : Bmp) (tg : Tga) (px : Pcx) (fa : A) (hb : aH) (n : Nat)   : Q_X0_askLayout_44 m0 sh rr ww so pl qo pn bm tg px fa hb n (F_X0_askLayout_44 bm) := by
  intro v2 v3 t0 sc res hE hF
  unfold F_X0_askLayout_44 at hE
  refine aw_istore (lv2 := [(4, _), (1, _), (2, _), (3, _)]) dX0_askLayout_44 (by decide) rfl ?_
  refine aw_iload_n dX0_askLayout_46 rfl ?_
  refine aw_aload_n dX0_askLayout_47 rfl ?_
  refine aw_getf (v := .int (sc_size sc)) dX0_askLayout_48 flX0_25_7 at_src rfl ?_
  refine aw_iload_n dX0_askLayout_51 rfl ?_
  refine aw_isub dX0_askLayout_52 ?_
  refine aw_icmp_eq (tgt := 68) dX0_askLayout_53 (by decide) (fun c53 => ?_) (fun c53 => ?_)
  · replace hE := fit hE c53
    exact aw_vret dX0_askLayout_68 rfl (Nat.zero_le _) (Nat.zero_le _) (Nat.zero_le _) (Nat.zero_le _) ⟨_, _, hE.symm, rfl, rfl, rfl⟩
  · replace hE := fif hE c53
    refine aw_iload dX0_askLayout_56 rfl ?_
    refine aw_if_ne (tgt := 68) dX0_askLayout_58 (by decide) (fun c58 => ?_) (fun c58 => ?_)
    · replace hE := fif hE c58
      exact aw_vret dX0_askLayout_68 rfl (Nat.zero_le _) (Nat.zero_le _) (Nat.zero_le _) (Nat.zero_le _) ⟨_, _, hE.symm, rfl, rfl, rfl⟩
    · replace hE := fit hE c58
      refine aw_aload_n dX0_askLayout_61 rfl ?_
      refine aw_iconst (v := 2) dX0_askLayout_62 (by decide) ?_
      refine aw_bipush (v := 34) dX0_askLayout_63 (by decide) ?_
      refine aw_callV dX0_askLayout_65 at_src cvX0_87 rfl (kF_X8_refuse m0 sh rr ww so sc pl qo pn bm tg px fa hb _  2 34 (fon_ne hE hF)) rfl (Nat.le_of_ble_eq_true rfl) (by decide) (by decide) (by decide) (by decide) (fun E h2 n2 hx => aw_out rfl (by decide) (by decide) (by obtain ⟨s65, e65, rfl, rfl⟩ := hx; exact ⟨_, (fon_ex e65 hE).symm, rfl, rfl⟩)) (fun r65 h65 n65 hp65 => ?_)
      obtain ⟨z65, s65, e65, rfl, rfl, rfl⟩ := hp65
      exact (hF (fon_ok e65 hE).symm).elim
def F_X0_askLayout_43 (bm : Bmp)  (v2 : Int32) (v3 : Int32) (sc : Src) : Out Src Unit := F_X0_askLayout_44 bm v2 v3 (0 : Int32) sc
set_option maxHeartbeats 1000000 in
set_option maxRecDepth 100000 in
theorem b_X0_askLayout_43 (m0 : Mnt) (sh : Nat → Nat) (rr : Nat → Ras) (ww : Nat → Row) (so : Nat) (pl : Pal) (qo : Qoi) (pn : Pnm) (bm : Bmp) (tg : Tga) (px : Pcx) (fa : A) (hb : aH) (n : Nat)   : Q_X0_askLayout_43 m0 sh rr ww so pl qo pn bm tg px fa hb n (F_X0_askLayout_43 bm) := by
  intro v2 v3 sc res hE hF
  unfold F_X0_askLayout_43 at hE
  refine aw_iconst (v := 0) dX0_askLayout_43 (by decide) ?_
  exact aw_lv _ (List.forall_mem_cons.mpr ⟨rfl, (List.forall_mem_cons.mpr ⟨rfl, (List.forall_mem_cons.mpr ⟨rfl, fun _ h => absurd h List.not_mem_nil⟩)⟩)⟩) (b_X0_askLayout_44 m0 sh rr ww so pl qo pn bm tg px fa hb n   v2 v3 (0 : Int32) sc _ hE hF)
def F_X0_askLayout_21 (bm : Bmp)  (sc : Src) : Out Src Unit := fon (F_X8_refuse 2 10 sc) (fun _ _ => fno) (fun E s25 => fex E s25)
set_option maxHeartbeats 1000000 in
set_option maxRecDepth 100000 in
theorem b_X0_askLayout_21 (m0 : Mnt) (sh : Nat → Nat) (rr : Nat → Ras) (ww : Nat → Row) (so : Nat) (pl : Pal) (qo : Qoi) (pn : Pnm) (bm : Bmp) (tg : Tga) (px : Pcx) (fa : A) (hb : aH) (n : Nat)   : Q_X0_askLayout_21 m0 sh rr ww so pl qo pn bm tg px fa hb n (F_X0_askLayout_21 bm) := by
  intro sc res hE hF
  unfold F_X0_askLayout_21 at hE
  refine aw_aload_n dX0_askLayout_21 rfl ?_
  refine aw_iconst (v := 2) dX0_askLayout_22 (by decide) ?_
  refine aw_bipush (v := 10) dX0_askLayout_23 (by decide) ?_
  refine aw_callV dX0_askLayout_25 at_src cvX0_87 rfl (kF_X8_refuse m0 sh rr ww so sc pl qo pn bm tg px fa hb _  2 10 (fon_ne hE hF)) rfl (Nat.le_of_ble_eq_true rfl) (by decide) (by decide) (by decide) (by decide) (fun E h2 n2 hx => aw_out rfl (by decide) (by decide) (by obtain ⟨s25, e25, rfl, rfl⟩ := hx; exact ⟨_, (fon_ex e25 hE).symm, rfl, rfl⟩)) (fun r25 h25 n25 hp25 => ?_)
  obtain ⟨z25, s25, e25, rfl, rfl, rfl⟩ := hp25
  exact (hF (fon_ok e25 hE).symm).elim
def F_X0_askLayout (a2 : Int32) (a3 : Int32) (sc : Src) (bm : Bmp) : Out Src Unit := if a2 < (54 + (4 * (bm_used bm))) then (F_X0_askLayout_21 bm sc) else (if a2 ≤ (sc_size sc) then (if (bm_comp bm) = 0 then (if a3 = 0 then (F_X0_askLayout_44 bm a2 a3 (1 : Int32) sc) else (F_X0_askLayout_43 bm a2 a3 sc)) else (F_X0_askLayout_43 bm a2 a3 sc)) else (F_X0_askLayout_21 bm sc))
set_option maxHeartbeats 1000000 in
set_option maxRecDepth 100000 in
theorem kF_X0_askLayout (m0 : Mnt) (sh : Nat → Nat) (rr : Nat → Ras) (ww : Nat → Row) (so : Nat) (sc : Src) (pl : Pal) (qo : Qoi) (pn : Pnm) (bm : Bmp) (tg : Tga) (px : Pcx) (fa : A) (hb : aH) (n : Nat)  (a2 : Int32) (a3 : Int32) (hF : F_X0_askLayout a2 a3 sc bm ≠ fno) : AM mX0_askLayout 4 [.ref 24, .ref 16, .int a2, .int a3] (HC m0 sh rr ww so sc pl qo pn bm tg px fa hb) n 1 6 0 0 (P_X0_askLayout m0 sh rr ww so pl qo pn bm tg px fa hb n (F_X0_askLayout a2 a3 sc bm)) (X_X0_askLayout m0 sh rr ww so pl qo pn bm tg px fa hb n (F_X0_askLayout a2 a3 sc bm)) := by
  generalize hE : F_X0_askLayout a2 a3 sc bm = res at hF ⊢
  refine aw_of (by decide +kernel) rfl (Nat.le_of_ble_eq_true rfl) ?_
  unfold F_X0_askLayout at hE
  refine aw_iload_n dX0_askLayout_0 rfl ?_
  refine aw_bipush (v := 54) dX0_askLayout_1 (by decide) ?_
  refine aw_iconst (v := 4) dX0_askLayout_3 (by decide) ?_
  refine aw_aload_n dX0_askLayout_4 rfl ?_
  refine aw_getf (v := .int (bm_used bm)) dX0_askLayout_5 flX0_81_0 at_bmp rfl ?_
  refine aw_imul dX0_askLayout_8 ?_
  refine aw_iadd dX0_askLayout_9 ?_
  refine aw_icmp_lt (tgt := 21) dX0_askLayout_10 (by decide) (fun c10 => ?_) (fun c10 => ?_)
  · replace hE := fit hE c10
    exact aw_lv _ (List.forall_mem_cons.mpr ⟨rfl, fun _ h => absurd h List.not_mem_nil⟩) (b_X0_askLayout_21 m0 sh rr ww so pl qo pn bm tg px fa hb n   sc _ hE hF)
  · replace hE := fif hE c10
    refine aw_iload_n dX0_askLayout_13 rfl ?_
    refine aw_aload_n dX0_askLayout_14 rfl ?_
    refine aw_getf (v := .int (sc_size sc)) dX0_askLayout_15 flX0_25_7 at_src rfl ?_
    refine aw_icmp_le (tgt := 28) dX0_askLayout_18 (by decide) (fun c18 => ?_) (fun c18 => ?_)
    · replace hE := fit hE c18
      refine aw_aload_n dX0_askLayout_28 rfl ?_
      refine aw_getf (v := .int (bm_comp bm)) dX0_askLayout_29 flX0_60_0 at_bmp rfl ?_
      refine aw_if_ne (tgt := 43) dX0_askLayout_32 (by decide) (fun c32 => ?_) (fun c32 => ?_)
      · replace hE := fif hE c32
        exact aw_lv _ (List.forall_mem_cons.mpr ⟨rfl, (List.forall_mem_cons.mpr ⟨rfl, (List.forall_mem_cons.mpr ⟨rfl, fun _ h => absurd h List.not_mem_nil⟩)⟩)⟩) (b_X0_askLayout_43 m0 sh rr ww so pl qo pn bm tg px fa hb n   a2 a3 sc _ hE hF)
      · replace hE := fit hE c32
        refine aw_iload_n dX0_askLayout_35 rfl ?_
        refine aw_if_ne (tgt := 43) dX0_askLayout_36 (by decide) (fun c36 => ?_) (fun c36 => ?_)
        · replace hE := fif hE c36
          exact aw_lv _ (List.forall_mem_cons.mpr ⟨rfl, (List.forall_mem_cons.mpr ⟨rfl, (List.forall_mem_cons.mpr ⟨rfl, fun _ h => absurd h List.not_mem_nil⟩)⟩)⟩) (b_X0_askLayout_43 m0 sh rr ww so pl qo pn bm tg px fa hb n   a2 a3 sc _ hE hF)
        · replace hE := fit hE c36
          refine aw_iconst (v := 1) dX0_askLayout_39 (by decide) ?_
          refine aw_goto (tgt := 44) dX0_askLayout_40 (by decide) ?_
          exact aw_lv _ (List.forall_mem_cons.mpr ⟨rfl, (List.forall_mem_cons.mpr ⟨rfl, (List.forall_mem_cons.mpr ⟨rfl, fun _ h => absurd h List.not_mem_nil⟩)⟩)⟩) (b_X0_askLayout_44 m0 sh rr ww so pl qo pn bm tg px fa hb n   a2 a3 (1 : Int32) sc _ hE hF)
    · replace hE := fif hE c18
      exact aw_lv _ (List.forall_mem_cons.mpr ⟨rfl, fun _ h => absurd h List.not_mem_nil⟩) (b_X0_askLayout_21 m0 sh rr ww so pl qo pn bm tg px fa hb n   sc _ hE hF)
def F_X10_pixelOf (a0 : Int32) (a1 : Int32) (a2 : Int32) (a3 : Int32) : Int32 := (((((a0 <<< ((24 : Int32) &&& 31)) ||| (a1 <<< ((16 : Int32) &&& 31))) ||| (a2 <<< ((8 : Int32) &&& 31))) ||| a3) : Int32)
set_option maxRecDepth 100000 in
theorem kF_X10_pixelOf (h : aH) (n : Nat) (a0 : Int32) (a1 : Int32) (a2 : Int32) (a3 : Int32) : AM mX10_pixelOf 1 [.int a0, .int a1, .int a2, .int a3] h n 0 0 0 0 (isV (.int (F_X10_pixelOf a0 a1 a2 a3)) h n) noX := by
  generalize hE : F_X10_pixelOf a0 a1 a2 a3 = res
  refine aw_of (by decide +kernel) rfl (Nat.le_of_ble_eq_true rfl) ?_
  unfold F_X10_pixelOf at hE
  refine aw_iload_n dX10_pixelOf_0 rfl ?_
  refine aw_bipush (v := 24) dX10_pixelOf_1 (by decide) ?_
  refine aw_ishl dX10_pixelOf_3 ?_
  refine aw_iload_n dX10_pixelOf_4 rfl ?_
  refine aw_bipush (v := 16) dX10_pixelOf_5 (by decide) ?_
  refine aw_ishl dX10_pixelOf_7 ?_
  refine aw_ior dX10_pixelOf_8 ?_
  refine aw_iload_n dX10_pixelOf_9 rfl ?_
  refine aw_bipush (v := 8) dX10_pixelOf_10 (by decide) ?_
  refine aw_ishl dX10_pixelOf_12 ?_
  refine aw_ior dX10_pixelOf_13 ?_
  refine aw_iload_n dX10_pixelOf_14 rfl ?_
  refine aw_ior dX10_pixelOf_15 ?_
  exact aw_iret dX10_pixelOf_16 rfl (Nat.zero_le _) (Nat.zero_le _) (Nat.zero_le _) (Nat.zero_le _) ⟨by subst hE; rfl, rfl, rfl⟩
def P_X0_colourOf (m0 : Mnt) (sh : Nat → Nat) (rr : Nat → Ras) (ww : Nat → Row) (so : Nat) (pl : Pal) (qo : Qoi) (pn : Pnm) (bm : Bmp) (tg : Tga) (px : Pcx) (fa : A) (hb : aH) (n : Nat) (res : Out Src Int32) : Option Value → aH → Nat → Prop := fun r1 h2 n2 => ∃ (a : Int32) (s : Src), res = fok a s ∧ r1 = some (.int a) ∧ h2 = HC m0 sh rr ww so s pl qo pn bm tg px fa hb ∧ n = n2
def X_X0_colourOf (m0 : Mnt) (sh : Nat → Nat) (rr : Nat → Ras) (ww : Nat → Row) (so : Nat) (pl : Pal) (qo : Qoi) (pn : Pnm) (bm : Bmp) (tg : Tga) (px : Pcx) (fa : A) (hb : aH) (n : Nat) (res : Out Src Int32) : String → aH → Nat → Prop := fun E h2 n2 => ∃ s : Src, res = fex E s ∧ h2 = HC m0 sh rr ww so s pl qo pn bm tg px fa hb ∧ n = n2
abbrev Q_X0_colourOf_19 (m0 : Mnt) (sh : Nat → Nat) (rr : Nat → Ras) (ww : Nat → Row) (so : Nat) (pl : Pal) (qo : Qoi) (pn : Pnm) (bm : Bmp) (tg : Tga) (px : Pcx) (fa : A) (hb : aH) (n : Nat) (k : Int32 → Src → Out Src Int32) : Prop := ∀ (v3 : Int32) (sc : Src) (res : Out Src Int32), k v3 sc = res → res ≠ fno → AW (fun _ _ => True) mX0_colourOf (rmD 4 1 6) 0 0 (P_X0_colourOf m0 sh rr ww so pl qo pn bm tg px fa hb n res) (X_X0_colourOf m0 sh rr ww so pl qo pn bm tg px fa hb n res) 0 0 19 [(1, .ref 16), (3, .int v3)] [] (HC m0 sh rr ww so sc pl qo pn bm tg px fa hb) n
def F_X0_colourOf_19 (bm : Bmp)  (v3 : Int32) (sc : Src) : Out Src Int32 := fon (F_X8_refuse 6 v3 sc) (fun _ _ => fno) (fun E s23 => fex E s23)
set_option maxHeartbeats 1000000 in
set_option maxRecDepth 100000 in
theorem b_X0_colourOf_19 (m0 : Mnt) (sh : Nat → Nat) (rr : Nat → Ras) (ww : Nat → Row) (so : Nat) (pl : Pal) (qo : Qoi) (pn : Pnm) (bm : Bmp) (tg : Tga) (px : Pcx) (fa : A) (hb : aH) (n : Nat)   : Q_X0_colourOf_19 m0 sh rr ww so pl qo pn bm tg px fa hb n (F_X0_colourOf_19 bm) := by
  intro v3 sc res hE hF
  unfold F_X0_colourOf_19 at hE
  refine aw_aload_n dX0_colourOf_19 rfl ?_
  refine aw_bipush (v := 6) dX0_colourOf_20 (by decide) ?_
  refine aw_iload_n dX0_colourOf_22 rfl ?_
  refine aw_callV dX0_colourOf_23 at_src cvX0_87 rfl (kF_X8_refuse m0 sh rr ww so sc pl qo pn bm tg px fa hb _  6 v3 (fon_ne hE hF)) rfl (Nat.le_of_ble_eq_true rfl) (by decide) (by decide) (by decide) (by decide) (fun E h2 n2 hx => aw_out rfl (by decide) (by decide) (by obtain ⟨s23, e23, rfl, rfl⟩ := hx; exact ⟨_, (fon_ex e23 hE).symm, rfl, rfl⟩)) (fun r23 h23 n23 hp23 => ?_)
  obtain ⟨z23, s23, e23, rfl, rfl, rfl⟩ := hp23
  exact (hF (fon_ok e23 hE).symm).elim
def F_X0_colourOf (a2 : Int32) (a3 : Int32) (sc : Src) (bm : Bmp) : Out Src Int32 := if a2 < 0 then (F_X0_colourOf_19 bm a3 sc) else (if (bm_used bm) ≤ a2 then (F_X0_colourOf_19 bm a3 sc) else (if a2 < 256 then (if inb a2 256 then (fok (((bm_col bm) (Int32.toNatClampNeg a2)) : Int32) sc) else fno) else (F_X0_colourOf_19 bm a3 sc)))
set_option maxHeartbeats 1000000 in
set_option maxRecDepth 100000 in
theorem kF_X0_colourOf (m0 : Mnt) (sh : Nat → Nat) (rr : Nat → Ras) (ww : Nat → Row) (so : Nat) (sc : Src) (pl : Pal) (qo : Qoi) (pn : Pnm) (bm : Bmp) (tg : Tga) (px : Pcx) (fa : A) (hb : aH) (n : Nat)  (a2 : Int32) (a3 : Int32) (hF : F_X0_colourOf a2 a3 sc bm ≠ fno) : AM mX0_colourOf 4 [.ref 24, .ref 16, .int a2, .int a3] (HC m0 sh rr ww so sc pl qo pn bm tg px fa hb) n 1 6 0 0 (P_X0_colourOf m0 sh rr ww so pl qo pn bm tg px fa hb n (F_X0_colourOf a2 a3 sc bm)) (X_X0_colourOf m0 sh rr ww so pl qo pn bm tg px fa hb n (F_X0_colourOf a2 a3 sc bm)) := by
  generalize hE : F_X0_colourOf a2 a3 sc bm = res at hF ⊢
  refine aw_of (by decide +kernel) rfl (Nat.le_of_ble_eq_true rfl) ?_
  unfold F_X0_colourOf at hE
  refine aw_iload_n dX0_colourOf_0 rfl ?_
  refine aw_if_lt (tgt := 19) dX0_colourOf_1 (by decide) (fun c1 => ?_) (fun c1 => ?_)
  · replace hE := fit hE c1
    exact aw_lv _ (List.forall_mem_cons.mpr ⟨rfl, (List.forall_mem_cons.mpr ⟨rfl, fun _ h => absurd h List.not_mem_nil⟩)⟩) (b_X0_colourOf_19 m0 sh rr ww so pl qo pn bm tg px fa hb n   a3 sc _ hE hF)
  · replace hE := fif hE c1
    refine aw_iload_n dX0_colourOf_4 rfl ?_
    refine aw_aload_n dX0_colourOf_5 rfl ?_
    refine aw_getf (v := .int (bm_used bm)) dX0_colourOf_6 flX0_81_0 at_bmp rfl ?_
    refine aw_icmp_ge (tgt := 19) dX0_colourOf_9 (by decide) (fun c9 => ?_) (fun c9 => ?_)
    · replace hE := fit hE c9
      exact aw_lv _ (List.forall_mem_cons.mpr ⟨rfl, (List.forall_mem_cons.mpr ⟨rfl, fun _ h => absurd h List.not_mem_nil⟩)⟩) (b_X0_colourOf_19 m0 sh rr ww so pl qo pn bm tg px fa hb n   a3 sc _ hE hF)
    · replace hE := fif hE c9
      refine aw_iload_n dX0_colourOf_12 rfl ?_
      refine aw_sipush (v := 256) dX0_colourOf_13 (by decide) ?_
      refine aw_icmp_lt (tgt := 28) dX0_colourOf_16 (by decide) (fun c16 => ?_) (fun c16 => ?_)
      · replace hE := fit hE c16
        refine aw_aload_n dX0_colourOf_28 rfl ?_
        refine aw_getf (v := .ref 25) dX0_colourOf_29 flX0_9_0 at_bmp rfl ?_
        refine aw_iload_n dX0_colourOf_32 rfl ?_
        obtain ⟨g33, hE⟩ := fgd hE hF
        refine aw_iald (f := (bm_col bm)) dX0_colourOf_33 at_bmpcol (vp_in_iff.mpr g33) ?_
        exact aw_iret dX0_colourOf_34 rfl (Nat.zero_le _) (Nat.zero_le _) (Nat.zero_le _) (Nat.zero_le _) ⟨_, _, hE.symm, rfl, rfl, rfl⟩
      · replace hE := fif hE c16
        exact aw_lv _ (List.forall_mem_cons.mpr ⟨rfl, (List.forall_mem_cons.mpr ⟨rfl, fun _ h => absurd h List.not_mem_nil⟩)⟩) (b_X0_colourOf_19 m0 sh rr ww so pl qo pn bm tg px fa hb n   a3 sc _ hE hF)
def F_X10_ofFiveBits (a0 : Int32) : Int32 := ((((510 * a0) + 31) / 62) : Int32)
set_option maxRecDepth 100000 in
theorem kF_X10_ofFiveBits (h : aH) (n : Nat) (a0 : Int32) : AM mX10_ofFiveBits 1 [.int a0] h n 0 0 0 0 (isV (.int (F_X10_ofFiveBits a0)) h n) noX := by
  generalize hE : F_X10_ofFiveBits a0 = res
  refine aw_of (by decide +kernel) rfl (Nat.le_of_ble_eq_true rfl) ?_
  unfold F_X10_ofFiveBits at hE
  refine aw_sipush (v := 510) dX10_ofFiveBits_0 (by decide) ?_
  refine aw_iload_n dX10_ofFiveBits_3 rfl ?_
  refine aw_imul dX10_ofFiveBits_4 ?_
  refine aw_bipush (v := 31) dX10_ofFiveBits_5 (by decide) ?_
  refine aw_iadd dX10_ofFiveBits_7 ?_
  refine aw_bipush (v := 62) dX10_ofFiveBits_8 (by decide) ?_
  refine aw_idiv dX10_ofFiveBits_10 (by decide) ?_
  exact aw_iret dX10_ofFiveBits_11 rfl (Nat.zero_le _) (Nat.zero_le _) (Nat.zero_le _) (Nat.zero_le _) ⟨by subst hE; rfl, rfl, rfl⟩
def P_X0_askRoom (m0 : Mnt) (sh : Nat → Nat) (rr : Nat → Ras) (r : Nat) (x : Ras) (ww : Nat → Row) (so : Nat) (pl : Pal) (qo : Qoi) (pn : Pnm) (bm : Bmp) (tg : Tga) (px : Pcx) (fa : A) (hb : aH) (n : Nat) (res : Out Src Unit) : Option Value → aH → Nat → Prop := fun r1 h2 n2 => ∃ (a : Unit) (s : Src), res = fok a s ∧ r1 = none ∧ h2 = HC m0 sh (va_up rr r x) ww so s pl qo pn bm tg px fa hb ∧ n = n2
def X_X0_askRoom (m0 : Mnt) (sh : Nat → Nat) (rr : Nat → Ras) (r : Nat) (x : Ras) (ww : Nat → Row) (so : Nat) (pl : Pal) (qo : Qoi) (pn : Pnm) (bm : Bmp) (tg : Tga) (px : Pcx) (fa : A) (hb : aH) (n : Nat) (res : Out Src Unit) : String → aH → Nat → Prop := fun E h2 n2 => ∃ s : Src, res = fex E s ∧ h2 = HC m0 sh (va_up rr r x) ww so s pl qo pn bm tg px fa hb ∧ n = n2
abbrev Q_X0_askRoom_24 (m0 : Mnt) (sh : Nat → Nat) (rr : Nat → Ras) (r : Nat) (x : Ras) (ww : Nat → Row) (so : Nat) (pl : Pal) (qo : Qoi) (pn : Pnm) (bm : Bmp) (tg : Tga) (px : Pcx) (fa : A) (hb : aH) (n : Nat) (k : Int32 → Src → Out Src Unit) : Prop := ∀ (v4 : Int32) (sc : Src) (res : Out Src Unit), k v4 sc = res → res ≠ fno → AW (fun _ _ => True) mX0_askRoom (rmD 4 1 6) 0 0 (P_X0_askRoom m0 sh rr r x ww so pl qo pn bm tg px fa hb n res) (X_X0_askRoom m0 sh rr r x ww so pl qo pn bm tg px fa hb n res) 0 0 24 [(1, .ref 16), (4, .int v4)] [] (HC m0 sh (va_up rr r x) ww so sc pl qo pn bm tg px fa hb) n
def F_X0_askRoom_24 (x : Ras) (bm : Bmp)  (v4 : Int32) (sc : Src) : Out Src Unit := fon (F_X8_refuse 4 v4 sc) (fun _ _ => fno) (fun E s28 => fex E s28)
set_option maxHeartbeats 1000000 in
set_option maxRecDepth 100000 in
theorem b_X0_askRoom_24 (m0 : Mnt) (sh : Nat → Nat) (rr : Nat → Ras) (r : Nat) (x : Ras) (ww : Nat → Row) (so : Nat) (pl : Pal) (qo : Qoi) (pn : Pnm) (bm : Bmp) (tg : Tga) (px : Pcx) (fa : A) (hb : aH) (n : Nat) (hr : isR r)  : Q_X0_askRoom_24 m0 sh rr r x ww so pl qo pn bm tg px fa hb n (F_X0_askRoom_24 x bm) := by
  intro v4 sc res hE hF
  unfold F_X0_askRoom_24 at hE
  refine aw_aload_n dX0_askRoom_24 rfl ?_
  refine aw_iconst (v := 4) dX0_askRoom_25 (by decide) ?_
  refine aw_iload dX0_askRoom_26 rfl ?_
  refine aw_callV dX0_askRoom_28 at_src cvX0_87 rfl (kF_X8_refuse m0 sh (va_up rr r x) ww so sc pl qo pn bm tg px fa hb _  4 v4 (fon_ne hE hF)) rfl (Nat.le_of_ble_eq_true rfl) (by decide) (by decide) (by decide) (by decide) (fun E h2 n2 hx => aw_out rfl (by decide) (by decide) (by obtain ⟨s28, e28, rfl, rfl⟩ := hx; exact ⟨_, (fon_ex e28 hE).symm, rfl, rfl⟩)) (fun r28 h28 n28 hp28 => ?_)
  obtain ⟨z28, s28, e28, rfl, rfl, rfl⟩ := hp28
  exact (hF (fon_ok e28 hE).symm).elim
def F_X0_askRoom (a3 : Int32) (a4 : Int32) (x : Ras) (sc : Src) (bm : Bmp) : Out Src Unit := if (x_g x) ≤ (bm_up bm) then (F_X0_askRoom_24 x bm a4 sc) else (if a3 ≤ ((x_w x) - (bm_column bm)) then (fok () sc) else (F_X0_askRoom_24 x bm a4 sc))
set_option maxHeartbeats 1000000 in
set_option maxRecDepth 100000 in
theorem kF_X0_askRoom (m0 : Mnt) (sh : Nat → Nat) (rr : Nat → Ras) (r : Nat) (x : Ras) (ww : Nat → Row) (so : Nat) (sc : Src) (pl : Pal) (qo : Qoi) (pn : Pnm) (bm : Bmp) (tg : Tga) (px : Pcx) (fa : A) (hb : aH) (n : Nat) (hr : isR r) (a3 : Int32) (a4 : Int32) (hF : F_X0_askRoom a3 a4 x sc bm ≠ fno) : AM mX0_askRoom 4 [.ref 24, .ref 16, .ref r, .int a3, .int a4] (HC m0 sh (va_up rr r x) ww so sc pl qo pn bm tg px fa hb) n 1 6 0 0 (P_X0_askRoom m0 sh rr r x ww so pl qo pn bm tg px fa hb n (F_X0_askRoom a3 a4 x sc bm)) (X_X0_askRoom m0 sh rr r x ww so pl qo pn bm tg px fa hb n (F_X0_askRoom a3 a4 x sc bm)) := by
  generalize hE : F_X0_askRoom a3 a4 x sc bm = res at hF ⊢
  refine aw_of (by decide +kernel) rfl (Nat.le_of_ble_eq_true rfl) ?_
  unfold F_X0_askRoom at hE
  refine aw_aload_n dX0_askRoom_0 rfl ?_
  refine aw_getf (v := .int (bm_up bm)) dX0_askRoom_1 flX0_153_0 at_bmp rfl ?_
  refine aw_aload_n dX0_askRoom_4 rfl ?_
  refine aw_getf (v := .int (x_g x)) dX0_askRoom_5 flX0_124_6 (at_ras hr) rfl ?_
  refine aw_icmp_ge (tgt := 24) dX0_askRoom_8 (by decide) (fun c8 => ?_) (fun c8 => ?_)
  · replace hE := fit hE c8
    exact aw_lv _ (List.forall_mem_cons.mpr ⟨rfl, (List.forall_mem_cons.mpr ⟨rfl, fun _ h => absurd h List.not_mem_nil⟩)⟩) (b_X0_askRoom_24 m0 sh rr r x ww so pl qo pn bm tg px fa hb n hr  a4 sc _ hE hF)
  · replace hE := fif hE c8
    refine aw_iload_n dX0_askRoom_11 rfl ?_
    refine aw_aload_n dX0_askRoom_12 rfl ?_
    refine aw_getf (v := .int (x_w x)) dX0_askRoom_13 flX0_119_6 (at_ras hr) rfl ?_
    refine aw_aload_n dX0_askRoom_16 rfl ?_
    refine aw_getf (v := .int (bm_column bm)) dX0_askRoom_17 flX0_150_0 at_bmp rfl ?_
    refine aw_isub dX0_askRoom_20 ?_
    refine aw_icmp_le (tgt := 31) dX0_askRoom_21 (by decide) (fun c21 => ?_) (fun c21 => ?_)
    · replace hE := fit hE c21
      exact aw_vret dX0_askRoom_31 rfl (Nat.zero_le _) (Nat.zero_le _) (Nat.zero_le _) (Nat.zero_le _) ⟨_, _, hE.symm, rfl, rfl, rfl⟩
    · replace hE := fif hE c21
      exact aw_lv _ (List.forall_mem_cons.mpr ⟨rfl, (List.forall_mem_cons.mpr ⟨rfl, fun _ h => absurd h List.not_mem_nil⟩)⟩) (b_X0_askRoom_24 m0 sh rr r x ww so pl qo pn bm tg px fa hb n hr  a4 sc _ hE hF)
def P_X0_part (m0 : Mnt) (sh : Nat → Nat) (rr : Nat → Ras) (ww : Nat → Row) (so : Nat) (sc : Src) (pl : Pal) (qo : Qoi) (pn : Pnm) (bm : Bmp) (tg : Tga) (px : Pcx) (fa : A) (hb : aH) (n : Nat) (res : Out Unit Int32) : Option Value → aH → Nat → Prop := fun r1 h2 n2 => ∃ (a : Int32) (s : Unit), res = fok a s ∧ r1 = some (.int a) ∧ h2 = HC m0 sh rr ww so sc pl qo pn bm tg px fa hb ∧ n = n2
def F_X0_part (a1 : Int32) (a2 : Int32) (bm : Bmp) : Out Unit Int32 := if (bm_bits bm) = 8 then (fok (a1 : Int32) ()) else (if (a2 &&& 1) = 0 then (fok ((a1 >>> ((4 : Int32) &&& 31)) : Int32) ()) else (fok ((a1 &&& 15) : Int32) ()))
set_option maxHeartbeats 1000000 in
set_option maxRecDepth 100000 in
theorem kF_X0_part (m0 : Mnt) (sh : Nat → Nat) (rr : Nat → Ras) (ww : Nat → Row) (so : Nat) (sc : Src) (pl : Pal) (qo : Qoi) (pn : Pnm) (bm : Bmp) (tg : Tga) (px : Pcx) (fa : A) (hb : aH) (n : Nat)  (a1 : Int32) (a2 : Int32) (hF : F_X0_part a1 a2 bm ≠ fno) : AM mX0_part 1 [.ref 24, .int a1, .int a2] (HC m0 sh rr ww so sc pl qo pn bm tg px fa hb) n 0 0 0 0 (P_X0_part m0 sh rr ww so sc pl qo pn bm tg px fa hb n (F_X0_part a1 a2 bm)) (fun _ _ _ => False) := by
  generalize hE : F_X0_part a1 a2 bm = res at hF ⊢
  refine aw_of (by decide +kernel) rfl (Nat.le_of_ble_eq_true rfl) ?_
  unfold F_X0_part at hE
  refine aw_aload_n dX0_part_0 rfl ?_
  refine aw_getf (v := .int (bm_bits bm)) dX0_part_1 flX0_72_0 at_bmp rfl ?_
  refine aw_bipush (v := 8) dX0_part_4 (by decide) ?_
  refine aw_icmp_ne (tgt := 11) dX0_part_6 (by decide) (fun c6 => ?_) (fun c6 => ?_)
  · replace hE := fif hE c6
    refine aw_iload_n dX0_part_11 rfl ?_
    refine aw_iconst (v := 1) dX0_part_12 (by decide) ?_
    refine aw_iand dX0_part_13 ?_
    refine aw_if_ne (tgt := 23) dX0_part_14 (by decide) (fun c14 => ?_) (fun c14 => ?_)
    · replace hE := fif hE c14
      refine aw_iload_n dX0_part_23 rfl ?_
      refine aw_bipush (v := 15) dX0_part_24 (by decide) ?_
      refine aw_iand dX0_part_26 ?_
      exact aw_iret dX0_part_27 rfl (Nat.zero_le _) (Nat.zero_le _) (Nat.zero_le _) (Nat.zero_le _) ⟨_, _, hE.symm, rfl, rfl, rfl⟩
    · replace hE := fit hE c14
      refine aw_iload_n dX0_part_17 rfl ?_
      refine aw_iconst (v := 4) dX0_part_18 (by decide) ?_
      refine aw_ishr dX0_part_19 ?_
      refine aw_goto (tgt := 27) dX0_part_20 (by decide) ?_
      exact aw_iret dX0_part_27 rfl (Nat.zero_le _) (Nat.zero_le _) (Nat.zero_le _) (Nat.zero_le _) ⟨_, _, hE.symm, rfl, rfl, rfl⟩
  · replace hE := fit hE c6
    refine aw_iload_n dX0_part_9 rfl ?_
    exact aw_iret dX0_part_10 rfl (Nat.zero_le _) (Nat.zero_le _) (Nat.zero_le _) (Nat.zero_le _) ⟨_, _, hE.symm, rfl, rfl, rfl⟩
def P_X0_paint (m0 : Mnt) (sh : Nat → Nat) (rr : Nat → Ras) (r : Nat) (ww : Nat → Row) (so : Nat) (sc : Src) (pl : Pal) (qo : Qoi) (pn : Pnm) (tg : Tga) (px : Pcx) (fa : A) (hb : aH) (n : Nat) (res : Out (Ras × Bmp) Unit) : Option Value → aH → Nat → Prop := fun r1 h2 n2 => ∃ (a : Unit) (s : (Ras × Bmp)), res = fok a s ∧ r1 = none ∧ h2 = HC m0 sh (va_up rr r s.1) ww so sc pl qo pn s.2 tg px fa hb ∧ n = n2
def F_X0_paint (a2 : Int32) (x : Ras) (bm : Bmp) : Out (Ras × Bmp) Unit := fon (F_X7_set (((((x_g x) - 1) - (bm_up bm)) * (x_w x)) + (bm_column bm)) a2 x) (fun z23 s23 => fok () (s23, ((bm_f1 bm), (bm_f2 bm), (bm_f3 bm), (bm_top bm), (bm_bits bm), (bm_comp bm), (bm_used bm), (bm_packed bm), ((bm_column bm) + 1), (bm_up bm), (bm_col bm)))) (fun _ _ => fno)
set_option maxHeartbeats 1000000 in
set_option maxRecDepth 100000 in
theorem kF_X0_paint (m0 : Mnt) (sh : Nat → Nat) (rr : Nat → Ras) (r : Nat) (x : Ras) (ww : Nat → Row) (so : Nat) (sc : Src) (pl : Pal) (qo : Qoi) (pn : Pnm) (bm : Bmp) (tg : Tga) (px : Pcx) (fa : A) (hb : aH) (n : Nat) (hr : isR r) (a2 : Int32) (hF : F_X0_paint a2 x bm ≠ fno) : AM mX0_paint 2 [.ref 24, .ref r, .int a2] (HC m0 sh (va_up rr r x) ww so sc pl qo pn bm tg px fa hb) n 0 0 0 0 (P_X0_paint m0 sh rr r ww so sc pl qo pn tg px fa hb n (F_X0_paint a2 x bm)) (fun _ _ _ => False) := by
  generalize hE : F_X0_paint a2 x bm = res at hF ⊢
  refine aw_of (by decide +kernel) rfl (Nat.le_of_ble_eq_true rfl) ?_
  unfold F_X0_paint at hE
  refine aw_aload_n dX0_paint_0 rfl ?_
  refine aw_aload_n dX0_paint_1 rfl ?_
  refine aw_getf (v := .int (x_g x)) dX0_paint_2 flX0_124_6 (at_ras hr) rfl ?_
  refine aw_iconst (v := 1) dX0_paint_5 (by decide) ?_
  refine aw_isub dX0_paint_6 ?_
  refine aw_aload_n dX0_paint_7 rfl ?_
  refine aw_getf (v := .int (bm_up bm)) dX0_paint_8 flX0_153_0 at_bmp rfl ?_
  refine aw_isub dX0_paint_11 ?_
  refine aw_aload_n dX0_paint_12 rfl ?_
  refine aw_getf (v := .int (x_w x)) dX0_paint_13 flX0_119_6 (at_ras hr) rfl ?_
  refine aw_imul dX0_paint_16 ?_
  refine aw_aload_n dX0_paint_17 rfl ?_
  refine aw_getf (v := .int (bm_column bm)) dX0_paint_18 flX0_150_0 at_bmp rfl ?_
  refine aw_iadd dX0_paint_21 ?_
  refine aw_iload_n dX0_paint_22 rfl ?_
  refine aw_callV dX0_paint_23 (at_ras hr) cvX0_134 rfl (kF_X7_set m0 sh rr r x ww so sc pl qo pn bm tg px fa hb _ hr (((((x_g x) - 1) - (bm_up bm)) * (x_w x)) + (bm_column bm)) a2 (fon_ne hE hF)) rfl (Nat.le_of_ble_eq_true rfl) (by decide) (by decide) (by decide) (by decide) (fun _ _ _ hf => False.elim hf) (fun r23 h23 n23 hp23 => ?_)
  obtain ⟨z23, s23, e23, rfl, rfl, rfl⟩ := hp23
  replace hE := fon_ok e23 hE
  refine aw_aload_n dX0_paint_26 rfl ?_
  refine aw_dup dX0_paint_27 rfl ?_
  refine aw_getf (v := .int (bm_column bm)) dX0_paint_28 flX0_150_0 at_bmp rfl ?_
  refine aw_iconst (v := 1) dX0_paint_31 (by decide) ?_
  refine aw_iadd dX0_paint_32 ?_
  refine aw_putf dX0_paint_33 ptX0_150_0 at_bmp (Nat.le_of_ble_eq_true rfl) ⟨rfl, rfl⟩ ?_
  refine aw_eqh (h2 := HC m0 sh (va_up rr r s23) ww so sc pl qo pn ((bm_f1 bm), (bm_f2 bm), (bm_f3 bm), (bm_top bm), (bm_bits bm), (bm_comp bm), (bm_used bm), (bm_packed bm), ((bm_column bm) + 1), (bm_up bm), (bm_col bm)) tg px fa hb) up_bmp ?_
  exact aw_vret dX0_paint_36 rfl (Nat.zero_le _) (Nat.zero_le _) (Nat.zero_le _) (Nat.zero_le _) ⟨_, _, hE.symm, rfl, rfl, rfl⟩
def P_X0_readUnlike (m0 : Mnt) (sh : Nat → Nat) (rr : Nat → Ras) (r : Nat) (ww : Nat → Row) (so : Nat) (pl : Pal) (qo : Qoi) (pn : Pnm) (tg : Tga) (px : Pcx) (fa : A) (hb : aH) (n : Nat) (res : Out (Ras × Src × Bmp) Unit) : Option Value → aH → Nat → Prop := fun r1 h2 n2 => ∃ (a : Unit) (s : (Ras × Src × Bmp)), res = fok a s ∧ r1 = none ∧ h2 = HC m0 sh (va_up rr r s.1) ww so s.2.1 pl qo pn s.2.2 tg px fa hb ∧ n = n2
def X_X0_readUnlike (m0 : Mnt) (sh : Nat → Nat) (rr : Nat → Ras) (r : Nat) (ww : Nat → Row) (so : Nat) (pl : Pal) (qo : Qoi) (pn : Pnm) (tg : Tga) (px : Pcx) (fa : A) (hb : aH) (n : Nat) (res : Out (Ras × Src × Bmp) Unit) : String → aH → Nat → Prop := fun E h2 n2 => ∃ s : (Ras × Src × Bmp), res = fex E s ∧ h2 = HC m0 sh (va_up rr r s.1) ww so s.2.1 pl qo pn s.2.2 tg px fa hb ∧ n = n2
abbrev Q_X0_readUnlike_9 (m0 : Mnt) (sh : Nat → Nat) (rr : Nat → Ras) (r : Nat) (ww : Nat → Row) (so : Nat) (pl : Pal) (qo : Qoi) (pn : Pnm) (tg : Tga) (px : Pcx) (fa : A) (hb : aH) (n : Nat) (k : Int32 → Int32 → Int32 → Int32 → Ras → Src → Bmp → Out (Ras × Src × Bmp) Unit) : Prop := ∀ (v3 : Int32) (v4 : Int32) (v5 : Int32) (v6 : Int32) (x : Ras) (sc : Src) (bm : Bmp) (res : Out (Ras × Src × Bmp) Unit), k v3 v4 v5 v6 x sc bm = res → res ≠ fno → AW (fun _ _ => True) mX0_readUnlike (rmD 5 1 6) 0 0 (P_X0_readUnlike m0 sh rr r ww so pl qo pn tg px fa hb n res) (X_X0_readUnlike m0 sh rr r ww so pl qo pn tg px fa hb n res) 0 0 9 [(0, .ref 24), (1, .ref 16), (2, .ref r), (3, .int v3), (4, .int v4), (5, .int v5), (6, .int v6)] [] (HC m0 sh (va_up rr r x) ww so sc pl qo pn bm tg px fa hb) n
abbrev Q_X0_readUnlike_31 (m0 : Mnt) (sh : Nat → Nat) (rr : Nat → Ras) (r : Nat) (ww : Nat → Row) (so : Nat) (pl : Pal) (qo : Qoi) (pn : Pnm) (tg : Tga) (px : Pcx) (fa : A) (hb : aH) (n : Nat) (k : Int32 → Int32 → Int32 → Ras → Src → Bmp → Out (Ras × Src × Bmp) Unit) : Prop := ∀ (v3 : Int32) (v4 : Int32) (v6 : Int32) (x : Ras) (sc : Src) (bm : Bmp) (res : Out (Ras × Src × Bmp) Unit), k v3 v4 v6 x sc bm = res → res ≠ fno → AW (fun _ _ => True) mX0_readUnlike (rmD 5 1 6) 0 0 (P_X0_readUnlike m0 sh rr r ww so pl qo pn tg px fa hb n res) (X_X0_readUnlike m0 sh rr r ww so pl qo pn tg px fa hb n res) 0 0 31 [(0, .ref 24), (1, .ref 16), (2, .ref r), (3, .int v3), (4, .int v4), (6, .int v6)] [] (HC m0 sh (va_up rr r x) ww so sc pl qo pn bm tg px fa hb) n
abbrev Q_X0_readUnlike_40 (m0 : Mnt) (sh : Nat → Nat) (rr : Nat → Ras) (r : Nat) (ww : Nat → Row) (so : Nat) (pl : Pal) (qo : Qoi) (pn : Pnm) (tg : Tga) (px : Pcx) (fa : A) (hb : aH) (n : Nat) (k : Int32 → Int32 → Int32 → Int32 → Ras → Src → Bmp → Out (Ras × Src × Bmp) Unit) : Prop := ∀ (v3 : Int32) (v4 : Int32) (v5 : Int32) (v6 : Int32) (x : Ras) (sc : Src) (bm : Bmp) (res : Out (Ras × Src × Bmp) Unit), k v3 v4 v5 v6 x sc bm = res → res ≠ fno → AW (fun _ _ => True) mX0_readUnlike (rmD 5 1 6) 0 0 (P_X0_readUnlike m0 sh rr r ww so pl qo pn tg px fa hb n res) (X_X0_readUnlike m0 sh rr r ww so pl qo pn tg px fa hb n res) 0 0 40 [(0, .ref 24), (1, .ref 16), (2, .ref r), (3, .int v3), (4, .int v4), (5, .int v5), (6, .int v6)] [] (HC m0 sh (va_up rr r x) ww so sc pl qo pn bm tg px fa hb) n
def F_X0_readUnlike_40 (sb : A) (k9 : Int32 → Int32 → Int32 → Int32 → Ras → Src → Bmp → Out (Ras × Src × Bmp) Unit) (v3 : Int32) (v4 : Int32) (v5 : Int32) (v6 : Int32) (x : Ras) (sc : Src) (bm : Bmp) : Out (Ras × Src × Bmp) Unit := fon (F_X0_part v5 v6 bm) (fun z49 s49 => fon (F_X0_colourOf z49 ((sc_pos sc) - 1) sc bm) (fun z58 s58 => fon (F_X0_paint z58 x bm) (fun z61 s61 => k9 v3 v4 v5 (v6 + 1) s61.1 s58 s61.2) (fun _ _ => fno)) (fun E s58 => fex E (x, s58, bm))) (fun _ _ => fno)
set_option maxHeartbeats 1000000 in
set_option maxRecDepth 100000 in
theorem b_X0_readUnlike_40 (m0 : Mnt) (sh : Nat → Nat) (rr : Nat → Ras) (r : Nat) (ww : Nat → Row) (so : Nat) (pl : Pal) (qo : Qoi) (pn : Pnm) (tg : Tga) (px : Pcx) (fa : A) (hb : aH) (n : Nat) (hr : isR r) (hso : isW so) (k9 : Int32 → Int32 → Int32 → Int32 → Ras → Src → Bmp → Out (Ras × Src × Bmp) Unit) (hk9 : Q_X0_readUnlike_9 m0 sh rr r ww so pl qo pn tg px fa hb n k9) : Q_X0_readUnlike_40 m0 sh rr r ww so pl qo pn tg px fa hb n (F_X0_readUnlike_40 (y_b (ww so)) k9) := by
  intro v3 v4 v5 v6 x sc bm res hE hF
  unfold F_X0_readUnlike_40 at hE
  refine aw_aload_n dX0_readUnlike_40 rfl ?_
  refine aw_aload_n dX0_readUnlike_41 rfl ?_
  refine aw_aload_n dX0_readUnlike_42 rfl ?_
  refine aw_aload_n dX0_readUnlike_43 rfl ?_
  refine aw_aload_n dX0_readUnlike_44 rfl ?_
  refine aw_iload dX0_readUnlike_45 rfl ?_
  refine aw_iload dX0_readUnlike_47 rfl ?_
  refine aw_callV dX0_readUnlike_49 at_bmp cvX0_170 rfl (kF_X0_part m0 sh (va_up rr r x) ww so sc pl qo pn bm tg px fa hb _  v5 v6 (fon_ne hE hF)) rfl (Nat.le_of_ble_eq_true rfl) (by decide) (by decide) (by decide) (by decide) (fun _ _ _ hf => False.elim hf) (fun r49 h49 n49 hp49 => ?_)
  obtain ⟨z49, s49, e49, rfl, rfl, rfl⟩ := hp49
  replace hE := fon_ok e49 hE
  refine aw_aload_n dX0_readUnlike_52 rfl ?_
  refine aw_getf (v := .int (sc_pos sc)) dX0_readUnlike_53 flX0_57_7 at_src rfl ?_
  refine aw_iconst (v := 1) dX0_readUnlike_56 (by decide) ?_
  refine aw_isub dX0_readUnlike_57 ?_
  refine aw_callV dX0_readUnlike_58 at_bmp cvX0_140 rfl (kF_X0_colourOf m0 sh (va_up rr r x) ww so sc pl qo pn bm tg px fa hb _  z49 ((sc_pos sc) - 1) (fon_ne hE hF)) rfl (Nat.le_of_ble_eq_true rfl) (by decide) (by decide) (by decide) (by decide) (fun E h2 n2 hx => aw_out rfl (by decide) (by decide) (by obtain ⟨s58, e58, rfl, rfl⟩ := hx; exact ⟨_, (fon_ex e58 hE).symm, rfl, rfl⟩)) (fun r58 h58 n58 hp58 => ?_)
  obtain ⟨z58, s58, e58, rfl, rfl, rfl⟩ := hp58
  replace hE := fon_ok e58 hE
  refine aw_callV dX0_readUnlike_61 at_bmp cvX0_173 rfl (kF_X0_paint m0 sh rr r x ww so s58 pl qo pn bm tg px fa hb _ hr z58 (fon_ne hE hF)) rfl (Nat.le_of_ble_eq_true rfl) (by decide) (by decide) (by decide) (by decide) (fun _ _ _ hf => False.elim hf) (fun r61 h61 n61 hp61 => ?_)
  obtain ⟨z61, s61, e61, rfl, rfl, rfl⟩ := hp61
  replace hE := fon_ok e61 hE
  refine aw_iinc (v := (v6 + 1)) (lv2 := [(6, _), (0, _), (1, _), (2, _), (3, _), (4, _), (5, _)]) dX0_readUnlike_64 rfl (incE (by decide)) (by decide) rfl ?_
  refine aw_goto (tgt := 9) dX0_readUnlike_67 (by decide) ?_
  exact aw_lv _ (List.forall_mem_cons.mpr ⟨rfl, (List.forall_mem_cons.mpr ⟨rfl, (List.forall_mem_cons.mpr ⟨rfl, (List.forall_mem_cons.mpr ⟨rfl, (List.forall_mem_cons.mpr ⟨rfl, (List.forall_mem_cons.mpr ⟨rfl, (List.forall_mem_cons.mpr ⟨rfl, fun _ h => absurd h List.not_mem_nil⟩)⟩)⟩)⟩)⟩)⟩)⟩) (hk9 v3 v4 v5 (v6 + 1) s61.1 s58 s61.2 _ hE hF)
def F_X0_readUnlike_31 (sb : A) (k9 : Int32 → Int32 → Int32 → Int32 → Ras → Src → Bmp → Out (Ras × Src × Bmp) Unit) (v3 : Int32) (v4 : Int32) (v6 : Int32) (x : Ras) (sc : Src) (bm : Bmp) : Out (Ras × Src × Bmp) Unit := fon (F_X8_next sc sb) (fun z32 s32 => F_X0_readUnlike_40 sb k9 v3 (v4 + 1) z32 v6 x s32 bm) (fun E s32 => fex E (x, s32, bm))
set_option maxHeartbeats 1000000 in
set_option maxRecDepth 100000 in
theorem b_X0_readUnlike_31 (m0 : Mnt) (sh : Nat → Nat) (rr : Nat → Ras) (r : Nat) (ww : Nat → Row) (so : Nat) (pl : Pal) (qo : Qoi) (pn : Pnm) (tg : Tga) (px : Pcx) (fa : A) (hb : aH) (n : Nat) (hr : isR r) (hso : isW so) (k9 : Int32 → Int32 → Int32 → Int32 → Ras → Src → Bmp → Out (Ras × Src × Bmp) Unit) (hk9 : Q_X0_readUnlike_9 m0 sh rr r ww so pl qo pn tg px fa hb n k9) : Q_X0_readUnlike_31 m0 sh rr r ww so pl qo pn tg px fa hb n (F_X0_readUnlike_31 (y_b (ww so)) k9) := by
  intro v3 v4 v6 x sc bm res hE hF
  unfold F_X0_readUnlike_31 at hE
  refine aw_aload_n dX0_readUnlike_31 rfl ?_
  refine aw_callV dX0_readUnlike_32 at_src cvX0_112 rfl (kF_X8_next m0 sh (va_up rr r x) ww so sc pl qo pn bm tg px fa hb _ hso  (fon_ne hE hF)) rfl (Nat.le_of_ble_eq_true rfl) (by decide) (by decide) (by decide) (by decide) (fun E h2 n2 hx => aw_out rfl (by decide) (by decide) (by obtain ⟨s32, e32, rfl, rfl⟩ := hx; exact ⟨_, (fon_ex e32 hE).symm, rfl, rfl⟩)) (fun r32 h32 n32 hp32 => ?_)
  obtain ⟨z32, s32, e32, rfl, rfl, rfl⟩ := hp32
  replace hE := fon_ok e32 hE
  refine aw_istore (lv2 := [(5, _), (0, _), (1, _), (2, _), (3, _), (4, _), (6, _)]) dX0_readUnlike_35 (by decide) rfl ?_
  refine aw_iinc (v := (v4 + 1)) (lv2 := [(4, _), (5, _), (0, _), (1, _), (2, _), (3, _), (6, _)]) dX0_readUnlike_37 rfl (incE (by decide)) (by decide) rfl ?_
  exact aw_lv _ (List.forall_mem_cons.mpr ⟨rfl, (List.forall_mem_cons.mpr ⟨rfl, (List.forall_mem_cons.mpr ⟨rfl, (List.forall_mem_cons.mpr ⟨rfl, (List.forall_mem_cons.mpr ⟨rfl, (List.forall_mem_cons.mpr ⟨rfl, (List.forall_mem_cons.mpr ⟨rfl, fun _ h => absurd h List.not_mem_nil⟩)⟩)⟩)⟩)⟩)⟩)⟩) (b_X0_readUnlike_40 m0 sh rr r ww so pl qo pn tg px fa hb n hr hso k9 hk9 v3 (v4 + 1) z32 v6 x s32 bm _ hE hF)
def F_X0_readUnlike_9 (sb : A) (k9 : Int32 → Int32 → Int32 → Int32 → Ras → Src → Bmp → Out (Ras × Src × Bmp) Unit) (v3 : Int32) (v4 : Int32) (v5 : Int32) (v6 : Int32) (x : Ras) (sc : Src) (bm : Bmp) : Out (Ras × Src × Bmp) Unit := if v3 ≤ v6 then (fon (F_X8_pass (v4 &&& 1) sc sb) (fun z75 s75 => fok () (x, s75, bm)) (fun E s75 => fex E (x, s75, bm))) else (if (bm_bits bm) = 8 then (F_X0_readUnlike_31 sb k9 v3 v4 v6 x sc bm) else (if (v6 &&& 1) = 0 then (F_X0_readUnlike_31 sb k9 v3 v4 v6 x sc bm) else (F_X0_readUnlike_40 sb k9 v3 v4 v5 v6 x sc bm)))
set_option maxHeartbeats 1000000 in
set_option maxRecDepth 100000 in
theorem b_X0_readUnlike_9 (m0 : Mnt) (sh : Nat → Nat) (rr : Nat → Ras) (r : Nat) (ww : Nat → Row) (so : Nat) (pl : Pal) (qo : Qoi) (pn : Pnm) (tg : Tga) (px : Pcx) (fa : A) (hb : aH) (n : Nat) (hr : isR r) (hso : isW so) (k9 : Int32 → Int32 → Int32 → Int32 → Ras → Src → Bmp → Out (Ras × Src × Bmp) Unit) (hk9 : Q_X0_readUnlike_9 m0 sh rr r ww so pl qo pn tg px fa hb n k9) : Q_X0_readUnlike_9 m0 sh rr r ww so pl qo pn tg px fa hb n (F_X0_readUnlike_9 (y_b (ww so)) k9) := by
  intro v3 v4 v5 v6 x sc bm res hE hF
  unfold F_X0_readUnlike_9 at hE
  refine aw_iload dX0_readUnlike_9 rfl ?_
  refine aw_iload_n dX0_readUnlike_11 rfl ?_
  refine aw_icmp_ge (tgt := 70) dX0_readUnlike_12 (by decide) (fun c12 => ?_) (fun c12 => ?_)
  · replace hE := fit hE c12
    refine aw_aload_n dX0_readUnlike_70 rfl ?_
    refine aw_iload dX0_readUnlike_71 rfl ?_
    refine aw_iconst (v := 1) dX0_readUnlike_73 (by decide) ?_
    refine aw_iand dX0_readUnlike_74 ?_
    refine aw_callV dX0_readUnlike_75 at_src cvX0_44 rfl (kF_X8_pass m0 sh (va_up rr r x) ww so sc pl qo pn bm tg px fa hb _ hso (v4 &&& 1) (fon_ne hE hF)) rfl (Nat.le_of_ble_eq_true rfl) (by decide) (by decide) (by decide) (by decide) (fun E h2 n2 hx => aw_out rfl (by decide) (by decide) (by obtain ⟨s75, e75, rfl, rfl⟩ := hx; exact ⟨_, (fon_ex e75 hE).symm, rfl, rfl⟩)) (fun r75 h75 n75 hp75 => ?_)
    obtain ⟨z75, s75, e75, rfl, rfl, rfl⟩ := hp75
    replace hE := fon_ok e75 hE
    exact aw_vret dX0_readUnlike_78 rfl (Nat.zero_le _) (Nat.zero_le _) (Nat.zero_le _) (Nat.zero_le _) ⟨_, _, hE.symm, rfl, rfl, rfl⟩
  · replace hE := fif hE c12
    refine aw_aload_n dX0_readUnlike_15 rfl ?_
    refine aw_getf (v := .int (bm_bits bm)) dX0_readUnlike_16 flX0_72_0 at_bmp rfl ?_
    refine aw_bipush (v := 8) dX0_readUnlike_19 (by decide) ?_
    refine aw_icmp_eq (tgt := 31) dX0_readUnlike_21 (by decide) (fun c21 => ?_) (fun c21 => ?_)
    · replace hE := fit hE c21
      exact aw_lv _ (List.forall_mem_cons.mpr ⟨rfl, (List.forall_mem_cons.mpr ⟨rfl, (List.forall_mem_cons.mpr ⟨rfl, (List.forall_mem_cons.mpr ⟨rfl, (List.forall_mem_cons.mpr ⟨rfl, (List.forall_mem_cons.mpr ⟨rfl, fun _ h => absurd h List.not_mem_nil⟩)⟩)⟩)⟩)⟩)⟩) (b_X0_readUnlike_31 m0 sh rr r ww so pl qo pn tg px fa hb n hr hso k9 hk9 v3 v4 v6 x sc bm _ hE hF)
    · replace hE := fif hE c21
      refine aw_iload dX0_readUnlike_24 rfl ?_
      refine aw_iconst (v := 1) dX0_readUnlike_26 (by decide) ?_
      refine aw_iand dX0_readUnlike_27 ?_
      refine aw_if_ne (tgt := 40) dX0_readUnlike_28 (by decide) (fun c28 => ?_) (fun c28 => ?_)
      · replace hE := fif hE c28
        exact aw_lv _ (List.forall_mem_cons.mpr ⟨rfl, (List.forall_mem_cons.mpr ⟨rfl, (List.forall_mem_cons.mpr ⟨rfl, (List.forall_mem_cons.mpr ⟨rfl, (List.forall_mem_cons.mpr ⟨rfl, (List.forall_mem_cons.mpr ⟨rfl, (List.forall_mem_cons.mpr ⟨rfl, fun _ h => absurd h List.not_mem_nil⟩)⟩)⟩)⟩)⟩)⟩)⟩) (b_X0_readUnlike_40 m0 sh rr r ww so pl qo pn tg px fa hb n hr hso k9 hk9 v3 v4 v5 v6 x sc bm _ hE hF)
      · replace hE := fit hE c28
        exact aw_lv _ (List.forall_mem_cons.mpr ⟨rfl, (List.forall_mem_cons.mpr ⟨rfl, (List.forall_mem_cons.mpr ⟨rfl, (List.forall_mem_cons.mpr ⟨rfl, (List.forall_mem_cons.mpr ⟨rfl, (List.forall_mem_cons.mpr ⟨rfl, fun _ h => absurd h List.not_mem_nil⟩)⟩)⟩)⟩)⟩)⟩) (b_X0_readUnlike_31 m0 sh rr r ww so pl qo pn tg px fa hb n hr hso k9 hk9 v3 v4 v6 x sc bm _ hE hF)
def F_X0_readUnlike (a3 : Int32) (x : Ras) (sc : Src) (sb : A) (bm : Bmp) : Out (Ras × Src × Bmp) Unit := lp (fun _ _ _ _ _ _ _ => fno) (F_X0_readUnlike_9 sb) FU a3 (0 : Int32) (0 : Int32) (0 : Int32) x sc bm
set_option maxHeartbeats 1000000 in
set_option maxRecDepth 100000 in
theorem kF_X0_readUnlike (m0 : Mnt) (sh : Nat → Nat) (rr : Nat → Ras) (r : Nat) (x : Ras) (ww : Nat → Row) (so : Nat) (sc : Src) (pl : Pal) (qo : Qoi) (pn : Pnm) (bm : Bmp) (tg : Tga) (px : Pcx) (fa : A) (hb : aH) (n : Nat) (hr : isR r) (hso : isW so) (a3 : Int32) (hF : F_X0_readUnlike a3 x sc (y_b (ww so)) bm ≠ fno) : AM mX0_readUnlike 5 [.ref 24, .ref 16, .ref r, .int a3] (HC m0 sh (va_up rr r x) ww so sc pl qo pn bm tg px fa hb) n 1 6 0 0 (P_X0_readUnlike m0 sh rr r ww so pl qo pn tg px fa hb n (F_X0_readUnlike a3 x sc (y_b (ww so)) bm)) (X_X0_readUnlike m0 sh rr r ww so pl qo pn tg px fa hb n (F_X0_readUnlike a3 x sc (y_b (ww so)) bm)) := by
  generalize hE : F_X0_readUnlike a3 x sc (y_b (ww so)) bm = res at hF ⊢
  refine aw_of (by decide +kernel) rfl (Nat.le_of_ble_eq_true rfl) ?_
  unfold F_X0_readUnlike at hE
  refine aw_iconst (v := 0) dX0_readUnlike_0 (by decide) ?_
  refine aw_istore (lv2 := [(4, _), (0, _), (1, _), (2, _), (3, _)]) dX0_readUnlike_1 (by decide) rfl ?_
  refine aw_iconst (v := 0) dX0_readUnlike_3 (by decide) ?_
  refine aw_istore (lv2 := [(5, _), (4, _), (0, _), (1, _), (2, _), (3, _)]) dX0_readUnlike_4 (by decide) rfl ?_
  refine aw_iconst (v := 0) dX0_readUnlike_6 (by decide) ?_
  refine aw_istore (lv2 := [(6, _), (5, _), (4, _), (0, _), (1, _), (2, _), (3, _)]) dX0_readUnlike_7 (by decide) rfl ?_
  exact aw_lv _ (List.forall_mem_cons.mpr ⟨rfl, (List.forall_mem_cons.mpr ⟨rfl, (List.forall_mem_cons.mpr ⟨rfl, (List.forall_mem_cons.mpr ⟨rfl, (List.forall_mem_cons.mpr ⟨rfl, (List.forall_mem_cons.mpr ⟨rfl, (List.forall_mem_cons.mpr ⟨rfl, fun _ h => absurd h List.not_mem_nil⟩)⟩)⟩)⟩)⟩)⟩)⟩) (lp_ind (Q_X0_readUnlike_9 m0 sh rr r ww so pl qo pn tg px fa hb n) (fun _ _ _ _ _ _ _ res hq hF => (hF hq.symm).elim) (fun k hk => b_X0_readUnlike_9 m0 sh rr r ww so pl qo pn tg px fa hb n hr hso  k hk) FU a3 (0 : Int32) (0 : Int32) (0 : Int32) x sc bm _ hE hF)
def P_X0_move (m0 : Mnt) (sh : Nat → Nat) (rr : Nat → Ras) (r : Nat) (x : Ras) (ww : Nat → Row) (so : Nat) (pl : Pal) (qo : Qoi) (pn : Pnm) (tg : Tga) (px : Pcx) (fa : A) (hb : aH) (n : Nat) (res : Out (Src × Bmp) Unit) : Option Value → aH → Nat → Prop := fun r1 h2 n2 => ∃ (a : Unit) (s : (Src × Bmp)), res = fok a s ∧ r1 = none ∧ h2 = HC m0 sh (va_up rr r x) ww so s.1 pl qo pn s.2 tg px fa hb ∧ n = n2
def X_X0_move (m0 : Mnt) (sh : Nat → Nat) (rr : Nat → Ras) (r : Nat) (x : Ras) (ww : Nat → Row) (so : Nat) (pl : Pal) (qo : Qoi) (pn : Pnm) (tg : Tga) (px : Pcx) (fa : A) (hb : aH) (n : Nat) (res : Out (Src × Bmp) Unit) : String → aH → Nat → Prop := fun E h2 n2 => ∃ s : (Src × Bmp), res = fex E s ∧ h2 = HC m0 sh (va_up rr r x) ww so s.1 pl qo pn s.2 tg px fa hb ∧ n = n2
abbrev Q_X0_move_86 (m0 : Mnt) (sh : Nat → Nat) (rr : Nat → Ras) (r : Nat) (x : Ras) (ww : Nat → Row) (so : Nat) (pl : Pal) (qo : Qoi) (pn : Pnm) (tg : Tga) (px : Pcx) (fa : A) (hb : aH) (n : Nat) (k : Int32 → Src → Bmp → Out (Src × Bmp) Unit) : Prop := ∀ (v4 : Int32) (sc : Src) (bm : Bmp) (res : Out (Src × Bmp) Unit), k v4 sc bm = res → res ≠ fno → AW (fun _ _ => True) mX0_move (rmD 4 1 6) 0 0 (P_X0_move m0 sh rr r x ww so pl qo pn tg px fa hb n res) (X_X0_move m0 sh rr r x ww so pl qo pn tg px fa hb n res) 0 0 86 [(1, .ref 16), (4, .int v4)] [] (HC m0 sh (va_up rr r x) ww so sc pl qo pn bm tg px fa hb) n
def F_X0_move_86 (x : Ras) (sb : A)  (v4 : Int32) (sc : Src) (bm : Bmp) : Out (Src × Bmp) Unit := fon (F_X8_refuse 4 v4 sc) (fun _ _ => fno) (fun E s90 => fex E (s90, bm))
set_option maxHeartbeats 1000000 in
set_option maxRecDepth 100000 in
theorem b_X0_move_86 (m0 : Mnt) (sh : Nat → Nat) (rr : Nat → Ras) (r : Nat) (x : Ras) (ww : Nat → Row) (so : Nat) (pl : Pal) (qo : Qoi) (pn : Pnm) (tg : Tga) (px : Pcx) (fa : A) (hb : aH) (n : Nat) (hr : isR r) (hso : isW so)  : Q_X0_move_86 m0 sh rr r x ww so pl qo pn tg px fa hb n (F_X0_move_86 x (y_b (ww so))) := by
  intro v4 sc bm res hE hF
  unfold F_X0_move_86 at hE
  refine aw_aload_n dX0_move_86 rfl ?_
  refine aw_iconst (v := 4) dX0_move_87 (by decide) ?_
  refine aw_iload dX0_move_88 rfl ?_
  refine aw_callV dX0_move_90 at_src cvX0_87 rfl (kF_X8_refuse m0 sh (va_up rr r x) ww so sc pl qo pn bm tg px fa hb _  4 v4 (fon_ne hE hF)) rfl (Nat.le_of_ble_eq_true rfl) (by decide) (by decide) (by decide) (by decide) (fun E h2 n2 hx => aw_out rfl (by decide) (by decide) (by obtain ⟨s90, e90, rfl, rfl⟩ := hx; exact ⟨_, (fon_ex e90 hE).symm, rfl, rfl⟩)) (fun r90 h90 n90 hp90 => ?_)
  obtain ⟨z90, s90, e90, rfl, rfl, rfl⟩ := hp90
  exact (hF (fon_ok e90 hE).symm).elim
def F_X0_move (a3 : Int32) (a4 : Int32) (x : Ras) (sc : Src) (sb : A) (bm : Bmp) : Out (Src × Bmp) Unit := if a3 = 0 then (if (bm_up bm) < (x_g x) then (fok () (sc, ((bm_f1 bm), (bm_f2 bm), (bm_f3 bm), (bm_top bm), (bm_bits bm), (bm_comp bm), (bm_used bm), (bm_packed bm), 0, ((bm_up bm) + 1), (bm_col bm)))) else (fon (F_X8_refuse 4 a4 sc) (fun _ _ => fno) (fun E s19 => fex E (s19, bm)))) else (fon (F_X8_next sc sb) (fun z44 s44 => fon (F_X8_next s44 sb) (fun z57 s57 => if (x_w x) < ((bm_column bm) + z44) then (F_X0_move_86 x sb a4 s57 ((bm_f1 bm), (bm_f2 bm), (bm_f3 bm), (bm_top bm), (bm_bits bm), (bm_comp bm), (bm_used bm), (bm_packed bm), ((bm_column bm) + z44), ((bm_up bm) + z57), (bm_col bm))) else (if ((bm_up bm) + z57) < (x_g x) then (fok () (s57, ((bm_f1 bm), (bm_f2 bm), (bm_f3 bm), (bm_top bm), (bm_bits bm), (bm_comp bm), (bm_used bm), (bm_packed bm), ((bm_column bm) + z44), ((bm_up bm) + z57), (bm_col bm)))) else (F_X0_move_86 x sb a4 s57 ((bm_f1 bm), (bm_f2 bm), (bm_f3 bm), (bm_top bm), (bm_bits bm), (bm_comp bm), (bm_used bm), (bm_packed bm), ((bm_column bm) + z44), ((bm_up bm) + z57), (bm_col bm))))) (fun E s57 => fex E (s57, ((bm_f1 bm), (bm_f2 bm), (bm_f3 bm), (bm_top bm), (bm_bits bm), (bm_comp bm), (bm_used bm), (bm_packed bm), ((bm_column bm) + z44), (bm_up bm), (bm_col bm))))) (fun E s44 => fex E (s44, bm)))
set_option maxHeartbeats 1000000 in
set_option maxRecDepth 100000 in
theorem kF_X0_move (m0 : Mnt) (sh : Nat → Nat) (rr : Nat → Ras) (r : Nat) (x : Ras) (ww : Nat → Row) (so : Nat) (sc : Src) (pl : Pal) (qo : Qoi) (pn : Pnm) (bm : Bmp) (tg : Tga) (px : Pcx) (fa : A) (hb : aH) (n : Nat) (hr : isR r) (hso : isW so) (a3 : Int32) (a4 : Int32) (hF : F_X0_move a3 a4 x sc (y_b (ww so)) bm ≠ fno) : AM mX0_move 4 [.ref 24, .ref 16, .ref r, .int a3, .int a4] (HC m0 sh (va_up rr r x) ww so sc pl qo pn bm tg px fa hb) n 1 6 0 0 (P_X0_move m0 sh rr r x ww so pl qo pn tg px fa hb n (F_X0_move a3 a4 x sc (y_b (ww so)) bm)) (X_X0_move m0 sh rr r x ww so pl qo pn tg px fa hb n (F_X0_move a3 a4 x sc (y_b (ww so)) bm)) := by
  generalize hE : F_X0_move a3 a4 x sc (y_b (ww so)) bm = res at hF ⊢
  refine aw_of (by decide +kernel) rfl (Nat.le_of_ble_eq_true rfl) ?_
  unfold F_X0_move at hE
  refine aw_iload_n dX0_move_0 rfl ?_
  refine aw_if_ne (tgt := 38) dX0_move_1 (by decide) (fun c1 => ?_) (fun c1 => ?_)
  · replace hE := fif hE c1
    refine aw_aload_n dX0_move_38 rfl ?_
    refine aw_dup dX0_move_39 rfl ?_
    refine aw_getf (v := .int (bm_column bm)) dX0_move_40 flX0_150_0 at_bmp rfl ?_
    refine aw_aload_n dX0_move_43 rfl ?_
    refine aw_callV dX0_move_44 at_src cvX0_112 rfl (kF_X8_next m0 sh (va_up rr r x) ww so sc pl qo pn bm tg px fa hb _ hso  (fon_ne hE hF)) rfl (Nat.le_of_ble_eq_true rfl) (by decide) (by decide) (by decide) (by decide) (fun E h2 n2 hx => aw_out rfl (by decide) (by decide) (by obtain ⟨s44, e44, rfl, rfl⟩ := hx; exact ⟨_, (fon_ex e44 hE).symm, rfl, rfl⟩)) (fun r44 h44 n44 hp44 => ?_)
    obtain ⟨z44, s44, e44, rfl, rfl, rfl⟩ := hp44
    replace hE := fon_ok e44 hE
    refine aw_iadd dX0_move_47 ?_
    refine aw_putf dX0_move_48 ptX0_150_0 at_bmp (Nat.le_of_ble_eq_true rfl) ⟨rfl, rfl⟩ ?_
    refine aw_eqh (h2 := HC m0 sh (va_up rr r x) ww so s44 pl qo pn ((bm_f1 bm), (bm_f2 bm), (bm_f3 bm), (bm_top bm), (bm_bits bm), (bm_comp bm), (bm_used bm), (bm_packed bm), ((bm_column bm) + z44), (bm_up bm), (bm_col bm)) tg px fa hb) up_bmp ?_
    refine aw_aload_n dX0_move_51 rfl ?_
    refine aw_dup dX0_move_52 rfl ?_
    refine aw_getf (v := .int (bm_up bm)) dX0_move_53 flX0_153_0 at_bmp rfl ?_
    refine aw_aload_n dX0_move_56 rfl ?_
    refine aw_callV dX0_move_57 at_src cvX0_112 rfl (kF_X8_next m0 sh (va_up rr r x) ww so s44 pl qo pn ((bm_f1 bm), (bm_f2 bm), (bm_f3 bm), (bm_top bm), (bm_bits bm), (bm_comp bm), (bm_used bm), (bm_packed bm), ((bm_column bm) + z44), (bm_up bm), (bm_col bm)) tg px fa hb _ hso  (fon_ne hE hF)) rfl (Nat.le_of_ble_eq_true rfl) (by decide) (by decide) (by decide) (by decide) (fun E h2 n2 hx => aw_out rfl (by decide) (by decide) (by obtain ⟨s57, e57, rfl, rfl⟩ := hx; exact ⟨_, (fon_ex e57 hE).symm, rfl, rfl⟩)) (fun r57 h57 n57 hp57 => ?_)
    obtain ⟨z57, s57, e57, rfl, rfl, rfl⟩ := hp57
    replace hE := fon_ok e57 hE
    refine aw_iadd dX0_move_60 ?_
    refine aw_putf dX0_move_61 ptX0_153_0 at_bmp (Nat.le_of_ble_eq_true rfl) ⟨rfl, rfl⟩ ?_
    refine aw_eqh (h2 := HC m0 sh (va_up rr r x) ww so s57 pl qo pn ((bm_f1 bm), (bm_f2 bm), (bm_f3 bm), (bm_top bm), (bm_bits bm), (bm_comp bm), (bm_used bm), (bm_packed bm), ((bm_column bm) + z44), ((bm_up bm) + z57), (bm_col bm)) tg px fa hb) up_bmp ?_
    refine aw_aload_n dX0_move_64 rfl ?_
    refine aw_getf (v := .int ((bm_column bm) + z44)) dX0_move_65 flX0_150_0 at_bmp rfl ?_
    refine aw_aload_n dX0_move_68 rfl ?_
    refine aw_getf (v := .int (x_w x)) dX0_move_69 flX0_119_6 (at_ras hr) rfl ?_
    refine aw_icmp_gt (tgt := 86) dX0_move_72 (by decide) (fun c72 => ?_) (fun c72 => ?_)
    · replace hE := fit hE c72
      exact aw_lv _ (List.forall_mem_cons.mpr ⟨rfl, (List.forall_mem_cons.mpr ⟨rfl, fun _ h => absurd h List.not_mem_nil⟩)⟩) (b_X0_move_86 m0 sh rr r x ww so pl qo pn tg px fa hb n hr hso  a4 s57 ((bm_f1 bm), (bm_f2 bm), (bm_f3 bm), (bm_top bm), (bm_bits bm), (bm_comp bm), (bm_used bm), (bm_packed bm), ((bm_column bm) + z44), ((bm_up bm) + z57), (bm_col bm)) _ hE hF)
    · replace hE := fif hE c72
      refine aw_aload_n dX0_move_75 rfl ?_
      refine aw_getf (v := .int ((bm_up bm) + z57)) dX0_move_76 flX0_153_0 at_bmp rfl ?_
      refine aw_aload_n dX0_move_79 rfl ?_
      refine aw_getf (v := .int (x_g x)) dX0_move_80 flX0_124_6 (at_ras hr) rfl ?_
      refine aw_icmp_lt (tgt := 93) dX0_move_83 (by decide) (fun c83 => ?_) (fun c83 => ?_)
      · replace hE := fit hE c83
        exact aw_vret dX0_move_93 rfl (Nat.zero_le _) (Nat.zero_le _) (Nat.zero_le _) (Nat.zero_le _) ⟨_, _, hE.symm, rfl, rfl, rfl⟩
      · replace hE := fif hE c83
        exact aw_lv _ (List.forall_mem_cons.mpr ⟨rfl, (List.forall_mem_cons.mpr ⟨rfl, fun _ h => absurd h List.not_mem_nil⟩)⟩) (b_X0_move_86 m0 sh rr r x ww so pl qo pn tg px fa hb n hr hso  a4 s57 ((bm_f1 bm), (bm_f2 bm), (bm_f3 bm), (bm_top bm), (bm_bits bm), (bm_comp bm), (bm_used bm), (bm_packed bm), ((bm_column bm) + z44), ((bm_up bm) + z57), (bm_col bm)) _ hE hF)
  · replace hE := fit hE c1
    refine aw_aload_n dX0_move_4 rfl ?_
    refine aw_getf (v := .int (bm_up bm)) dX0_move_5 flX0_153_0 at_bmp rfl ?_
    refine aw_aload_n dX0_move_8 rfl ?_
    refine aw_getf (v := .int (x_g x)) dX0_move_9 flX0_124_6 (at_ras hr) rfl ?_
    refine aw_icmp_lt (tgt := 22) dX0_move_12 (by decide) (fun c12 => ?_) (fun c12 => ?_)
    · replace hE := fit hE c12
      refine aw_aload_n dX0_move_22 rfl ?_
      refine aw_iconst (v := 0) dX0_move_23 (by decide) ?_
      refine aw_putf dX0_move_24 ptX0_150_0 at_bmp (Nat.le_of_ble_eq_true rfl) ⟨rfl, rfl⟩ ?_
      refine aw_eqh (h2 := HC m0 sh (va_up rr r x) ww so sc pl qo pn ((bm_f1 bm), (bm_f2 bm), (bm_f3 bm), (bm_top bm), (bm_bits bm), (bm_comp bm), (bm_used bm), (bm_packed bm), 0, (bm_up bm), (bm_col bm)) tg px fa hb) up_bmp ?_
      refine aw_aload_n dX0_move_27 rfl ?_
      refine aw_dup dX0_move_28 rfl ?_
      refine aw_getf (v := .int (bm_up bm)) dX0_move_29 flX0_153_0 at_bmp rfl ?_
      refine aw_iconst (v := 1) dX0_move_32 (by decide) ?_
      refine aw_iadd dX0_move_33 ?_
      refine aw_putf dX0_move_34 ptX0_153_0 at_bmp (Nat.le_of_ble_eq_true rfl) ⟨rfl, rfl⟩ ?_
      refine aw_eqh (h2 := HC m0 sh (va_up rr r x) ww so sc pl qo pn ((bm_f1 bm), (bm_f2 bm), (bm_f3 bm), (bm_top bm), (bm_bits bm), (bm_comp bm), (bm_used bm), (bm_packed bm), 0, ((bm_up bm) + 1), (bm_col bm)) tg px fa hb) up_bmp ?_
      exact aw_vret dX0_move_37 rfl (Nat.zero_le _) (Nat.zero_le _) (Nat.zero_le _) (Nat.zero_le _) ⟨_, _, hE.symm, rfl, rfl, rfl⟩
    · replace hE := fif hE c12
      refine aw_aload_n dX0_move_15 rfl ?_
      refine aw_iconst (v := 4) dX0_move_16 (by decide) ?_
      refine aw_iload dX0_move_17 rfl ?_
      refine aw_callV dX0_move_19 at_src cvX0_87 rfl (kF_X8_refuse m0 sh (va_up rr r x) ww so sc pl qo pn bm tg px fa hb _  4 a4 (fon_ne hE hF)) rfl (Nat.le_of_ble_eq_true rfl) (by decide) (by decide) (by decide) (by decide) (fun E h2 n2 hx => aw_out rfl (by decide) (by decide) (by obtain ⟨s19, e19, rfl, rfl⟩ := hx; exact ⟨_, (fon_ex e19 hE).symm, rfl, rfl⟩)) (fun r19 h19 n19 hp19 => ?_)
      obtain ⟨z19, s19, e19, rfl, rfl, rfl⟩ := hp19
      exact (hF (fon_ok e19 hE).symm).elim
def P_X8_wantEnd (m0 : Mnt) (sh : Nat → Nat) (rr : Nat → Ras) (ww : Nat → Row) (so : Nat) (pl : Pal) (qo : Qoi) (pn : Pnm) (bm : Bmp) (tg : Tga) (px : Pcx) (fa : A) (hb : aH) (n : Nat) (res : Out Src Unit) : Option Value → aH → Nat → Prop := fun r1 h2 n2 => ∃ (a : Unit) (s : Src), res = fok a s ∧ r1 = none ∧ h2 = HC m0 sh rr ww so s pl qo pn bm tg px fa hb ∧ n = n2
def X_X8_wantEnd (m0 : Mnt) (sh : Nat → Nat) (rr : Nat → Ras) (ww : Nat → Row) (so : Nat) (pl : Pal) (qo : Qoi) (pn : Pnm) (bm : Bmp) (tg : Tga) (px : Pcx) (fa : A) (hb : aH) (n : Nat) (res : Out Src Unit) : String → aH → Nat → Prop := fun E h2 n2 => ∃ s : Src, res = fex E s ∧ h2 = HC m0 sh rr ww so s pl qo pn bm tg px fa hb ∧ n = n2
def F_X8_wantEnd (sc : Src) : Out Src Unit := if (sc_size sc) ≤ (sc_pos sc) then (fok () sc) else (fon (F_X8_refuse 5 (sc_pos sc) sc) (fun _ _ => fno) (fun E s17 => fex E s17))
set_option maxHeartbeats 1000000 in
set_option maxRecDepth 100000 in
theorem kF_X8_wantEnd (m0 : Mnt) (sh : Nat → Nat) (rr : Nat → Ras) (ww : Nat → Row) (so : Nat) (sc : Src) (pl : Pal) (qo : Qoi) (pn : Pnm) (bm : Bmp) (tg : Tga) (px : Pcx) (fa : A) (hb : aH) (n : Nat)   (hF : F_X8_wantEnd sc ≠ fno) : AM mX8_wantEnd 4 [.ref 16] (HC m0 sh rr ww so sc pl qo pn bm tg px fa hb) n 1 6 0 0 (P_X8_wantEnd m0 sh rr ww so pl qo pn bm tg px fa hb n (F_X8_wantEnd sc)) (X_X8_wantEnd m0 sh rr ww so pl qo pn bm tg px fa hb n (F_X8_wantEnd sc)) := by
  generalize hE : F_X8_wantEnd sc = res at hF ⊢
  refine aw_of (by decide +kernel) rfl (Nat.le_of_ble_eq_true rfl) ?_
  unfold F_X8_wantEnd at hE
  refine aw_aload_n dX8_wantEnd_0 rfl ?_
  refine aw_getf (v := .int (sc_pos sc)) dX8_wantEnd_1 flX8_25_7 at_src rfl ?_
  refine aw_aload_n dX8_wantEnd_4 rfl ?_
  refine aw_getf (v := .int (sc_size sc)) dX8_wantEnd_5 flX8_22_7 at_src rfl ?_
  refine aw_icmp_ge (tgt := 20) dX8_wantEnd_8 (by decide) (fun c8 => ?_) (fun c8 => ?_)
  · replace hE := fit hE c8
    exact aw_vret dX8_wantEnd_20 rfl (Nat.zero_le _) (Nat.zero_le _) (Nat.zero_le _) (Nat.zero_le _) ⟨_, _, hE.symm, rfl, rfl, rfl⟩
  · replace hE := fif hE c8
    refine aw_aload_n dX8_wantEnd_11 rfl ?_
    refine aw_iconst (v := 5) dX8_wantEnd_12 (by decide) ?_
    refine aw_aload_n dX8_wantEnd_13 rfl ?_
    refine aw_getf (v := .int (sc_pos sc)) dX8_wantEnd_14 flX8_25_7 at_src rfl ?_
    refine aw_callV dX8_wantEnd_17 at_src cvX8_50 rfl (kF_X8_refuse m0 sh rr ww so sc pl qo pn bm tg px fa hb _  5 (sc_pos sc) (fon_ne hE hF)) rfl (Nat.le_of_ble_eq_true rfl) (by decide) (by decide) (by decide) (by decide) (fun E h2 n2 hx => aw_out rfl (by decide) (by decide) (by obtain ⟨s17, e17, rfl, rfl⟩ := hx; exact ⟨_, (fon_ex e17 hE).symm, rfl, rfl⟩)) (fun r17 h17 n17 hp17 => ?_)
    obtain ⟨z17, s17, e17, rfl, rfl, rfl⟩ := hp17
    exact (hF (fon_ok e17 hE).symm).elim
