def P_X1_add (m0 : Mnt) (sh : Nat → Nat) (rr : Nat → Ras) (ww : Nat → Row) (o : Nat) (so : Nat) (sc : Src) (pl : Pal) (qo : Qoi) (pn : Pnm) (bm : Bmp) (tg : Tga) (px : Pcx) (fa : A) (hb : aH) (n : Nat) (res : Out Row Unit) : Option Value → aH → Nat → Prop := fun r1 h2 n2 => ∃ (a : Unit) (s : Row), res = fok a s ∧ r1 = none ∧ h2 = HC m0 sh rr (va_up ww o s) so sc pl qo pn bm tg px fa hb ∧ n = n2
def F_X1_add (a1 : Int32) (y : Row) : Out Row Unit := if 65536 ≤ (y_n y) then (fok () y) else (if inb (y_n y) 65536 then (fok () (((y_n y) + 1), (upd (y_b y) (Int32.toNatClampNeg (y_n y)) (vp_nar .byte (a1).toInt8.toInt32)))) else fno)
set_option maxHeartbeats 1000000 in
set_option maxRecDepth 100000 in
theorem kF_X1_add (m0 : Mnt) (sh : Nat → Nat) (rr : Nat → Ras) (ww : Nat → Row) (o : Nat) (y : Row) (so : Nat) (sc : Src) (pl : Pal) (qo : Qoi) (pn : Pnm) (bm : Bmp) (tg : Tga) (px : Pcx) (fa : A) (hb : aH) (n : Nat) (ho : isW o) (a1 : Int32) (hF : F_X1_add a1 y ≠ fno) : AM mX1_add 1 [.ref o, .int a1] (HC m0 sh rr (va_up ww o y) so sc pl qo pn bm tg px fa hb) n 0 0 0 0 (P_X1_add m0 sh rr ww o so sc pl qo pn bm tg px fa hb n (F_X1_add a1 y)) (fun _ _ _ => False) := by
  generalize hE : F_X1_add a1 y = res at hF ⊢
  refine aw_of (by decide +kernel) rfl (Nat.le_of_ble_eq_true rfl) ?_
  unfold F_X1_add at hE
  refine aw_aload_n dX1_add_0 rfl ?_
  refine aw_getf (v := .int (y_n y)) dX1_add_1 flX1_16_1 (at_row ho) rfl ?_
  refine aw_ldc dX1_add_4 kcX1_9 ?_
  refine aw_icmp_ge (tgt := 30) dX1_add_6 (by decide) (fun c6 => ?_) (fun c6 => ?_)
  · replace hE := fit hE c6
    exact aw_vret dX1_add_30 rfl (Nat.zero_le _) (Nat.zero_le _) (Nat.zero_le _) (Nat.zero_le _) ⟨_, _, hE.symm, rfl, rfl, rfl⟩
  · replace hE := fif hE c6
    refine aw_aload_n dX1_add_9 rfl ?_
    refine aw_getf (v := .ref (o + 1)) dX1_add_10 flX1_10_1 (at_row ho) rfl ?_
    refine aw_aload_n dX1_add_13 rfl ?_
    refine aw_getf (v := .int (y_n y)) dX1_add_14 flX1_16_1 (at_row ho) rfl ?_
    refine aw_iload_n dX1_add_17 rfl ?_
    refine aw_i2b dX1_add_18 ?_
    obtain ⟨g19, hE⟩ := fgd hE hF
    refine aw_bast (f := (y_b y)) dX1_add_19 (at_cells ho) (vp_in_iff.mpr g19) ?_
    refine aw_eqh (h2 := HC m0 sh rr (va_up ww o ((y_n y), (upd (y_b y) (Int32.toNatClampNeg (y_n y)) (vp_nar .byte (a1).toInt8.toInt32)))) so sc pl qo pn bm tg px fa hb) (up_cells ho) ?_
    refine aw_aload_n dX1_add_20 rfl ?_
    refine aw_dup dX1_add_21 rfl ?_
    refine aw_getf (v := .int (y_n y)) dX1_add_22 flX1_16_1 (at_row ho) rfl ?_
    refine aw_iconst (v := 1) dX1_add_25 (by decide) ?_
    refine aw_iadd dX1_add_26 ?_
    refine aw_putf dX1_add_27 ptX1_16_1 (at_row ho) (Nat.le_of_ble_eq_true rfl) ⟨rfl, rfl⟩ ?_
    refine aw_eqh (h2 := HC m0 sh rr (va_up ww o (((y_n y) + 1), (upd (y_b y) (Int32.toNatClampNeg (y_n y)) (vp_nar .byte (a1).toInt8.toInt32)))) so sc pl qo pn bm tg px fa hb) (up_row ho) ?_
    exact aw_vret dX1_add_30 rfl (Nat.zero_le _) (Nat.zero_le _) (Nat.zero_le _) (Nat.zero_le _) ⟨_, _, hE.symm, rfl, rfl, rfl⟩
def P_X10_place (m0 : Mnt) (sh : Nat → Nat) (rr : Nat → Ras) (ww : Nat → Row) (so : Nat) (sc : Src) (pl : Pal) (qo : Qoi) (pn : Pnm) (bm : Bmp) (tg : Tga) (px : Pcx) (fa : A) (hb : aH) (n : Nat) (res : Out Unit Int32) : Option Value → aH → Nat → Prop := fun r1 h2 n2 => ∃ (a : Int32) (s : Unit), res = fok a s ∧ r1 = some (.int a) ∧ h2 = HC m0 sh rr ww so sc pl qo pn bm tg px fa hb ∧ n = n2
def F_X10_place (m0 : Mnt) : Out Unit Int32 := fok ((m0_fp m0) : Int32) ()
set_option maxHeartbeats 1000000 in
set_option maxRecDepth 100000 in
theorem kF_X10_place (m0 : Mnt) (sh : Nat → Nat) (rr : Nat → Ras) (ww : Nat → Row) (so : Nat) (sc : Src) (pl : Pal) (qo : Qoi) (pn : Pnm) (bm : Bmp) (tg : Tga) (px : Pcx) (fa : A) (hb : aH) (n : Nat)   (hF : F_X10_place m0 ≠ fno) : AM mX10_place 1 [.ref 0] (HC m0 sh rr ww so sc pl qo pn bm tg px fa hb) n 0 0 0 0 (P_X10_place m0 sh rr ww so sc pl qo pn bm tg px fa hb n (F_X10_place m0)) (fun _ _ _ => False) := by
  generalize hE : F_X10_place m0 = res at hF ⊢
  refine aw_of (by decide +kernel) rfl (Nat.le_of_ble_eq_true rfl) ?_
  unfold F_X10_place at hE
  refine aw_aload_n dX10_place_0 rfl ?_
  refine aw_getf (v := .int (m0_fp m0)) dX10_place_1 flX10_79_9 at_mint rfl ?_
  exact aw_iret dX10_place_4 rfl (Nat.zero_le _) (Nat.zero_le _) (Nat.zero_le _) (Nat.zero_le _) ⟨_, _, hE.symm, rfl, rfl, rfl⟩
def P_X10_told (m0 : Mnt) (sh : Nat → Nat) (rr : Nat → Ras) (ww : Nat → Row) (so : Nat) (sc : Src) (pl : Pal) (qo : Qoi) (pn : Pnm) (bm : Bmp) (tg : Tga) (px : Pcx) (fa : A) (hb : aH) (n : Nat) (res : Out Unit Int32) : Option Value → aH → Nat → Prop := fun r1 h2 n2 => ∃ (a : Int32) (s : Unit), res = fok a s ∧ r1 = some (.int a) ∧ h2 = HC m0 sh rr ww so sc pl qo pn bm tg px fa hb ∧ n = n2
abbrev Q_X10_told_22 (m0 : Mnt) (sh : Nat → Nat) (rr : Nat → Ras) (ww : Nat → Row) (so : Nat) (sc : Src) (pl : Pal) (qo : Qoi) (pn : Pnm) (bm : Bmp) (tg : Tga) (px : Pcx) (fa : A) (hb : aH) (n : Nat) (k : Out Unit Int32) : Prop := ∀  (res : Out Unit Int32), k  = res → res ≠ fno → AW (fun _ _ => True) mX10_told (rmD 1 0 0) 0 0 (P_X10_told m0 sh rr ww so sc pl qo pn bm tg px fa hb n res) (fun _ _ _ => False) 0 0 22 [] [] (HC m0 sh rr ww so sc pl qo pn bm tg px fa hb) n
def F_X10_told_22 (fa : A)   : Out Unit Int32 := fok ((-1) : Int32) ()
set_option maxHeartbeats 1000000 in
set_option maxRecDepth 100000 in
theorem b_X10_told_22 (m0 : Mnt) (sh : Nat → Nat) (rr : Nat → Ras) (ww : Nat → Row) (so : Nat) (sc : Src) (pl : Pal) (qo : Qoi) (pn : Pnm) (bm : Bmp) (tg : Tga) (px : Pcx) (fa : A) (hb : aH) (n : Nat)   : Q_X10_told_22 m0 sh rr ww so sc pl qo pn bm tg px fa hb n (F_X10_told_22 fa) := by
  intro res hE hF
  unfold F_X10_told_22 at hE
  refine aw_iconst (v := (-1)) dX10_told_22 (by decide) ?_
  exact aw_iret dX10_told_23 rfl (Nat.zero_le _) (Nat.zero_le _) (Nat.zero_le _) (Nat.zero_le _) ⟨_, _, hE.symm, rfl, rfl, rfl⟩
def F_X10_told (a1 : Int32) (fa : A) : Out Unit Int32 := if a1 < 0 then (F_X10_told_22 fa ) else (if 4 ≤ a1 then (F_X10_told_22 fa ) else (if inb a1 4 then (fok ((fa (Int32.toNatClampNeg a1)) : Int32) ()) else fno))
set_option maxHeartbeats 1000000 in
set_option maxRecDepth 100000 in
theorem kF_X10_told (m0 : Mnt) (sh : Nat → Nat) (rr : Nat → Ras) (ww : Nat → Row) (so : Nat) (sc : Src) (pl : Pal) (qo : Qoi) (pn : Pnm) (bm : Bmp) (tg : Tga) (px : Pcx) (fa : A) (hb : aH) (n : Nat)  (a1 : Int32) (hF : F_X10_told a1 fa ≠ fno) : AM mX10_told 1 [.ref 0, .int a1] (HC m0 sh rr ww so sc pl qo pn bm tg px fa hb) n 0 0 0 0 (P_X10_told m0 sh rr ww so sc pl qo pn bm tg px fa hb n (F_X10_told a1 fa)) (fun _ _ _ => False) := by
  generalize hE : F_X10_told a1 fa = res at hF ⊢
  refine aw_of (by decide +kernel) rfl (Nat.le_of_ble_eq_true rfl) ?_
  unfold F_X10_told at hE
  refine aw_iload_n dX10_told_0 rfl ?_
  refine aw_if_lt (tgt := 22) dX10_told_1 (by decide) (fun c1 => ?_) (fun c1 => ?_)
  · replace hE := fit hE c1
    exact aw_lv _ (fun _ h => absurd h List.not_mem_nil) (b_X10_told_22 m0 sh rr ww so sc pl qo pn bm tg px fa hb n    _ hE hF)
  · replace hE := fif hE c1
    refine aw_iload_n dX10_told_4 rfl ?_
    refine aw_aload_n dX10_told_5 rfl ?_
    refine aw_getf (v := .ref 30) dX10_told_6 flX10_69_9 at_mint rfl ?_
    refine aw_alen (v := 4) dX10_told_9 at_facts (by decide) ?_
    refine aw_icmp_ge (tgt := 22) dX10_told_10 (by decide) (fun c10 => ?_) (fun c10 => ?_)
    · replace hE := fit hE c10
      exact aw_lv _ (fun _ h => absurd h List.not_mem_nil) (b_X10_told_22 m0 sh rr ww so sc pl qo pn bm tg px fa hb n    _ hE hF)
    · replace hE := fif hE c10
      refine aw_aload_n dX10_told_13 rfl ?_
      refine aw_getf (v := .ref 30) dX10_told_14 flX10_69_9 at_mint rfl ?_
      refine aw_iload_n dX10_told_17 rfl ?_
      obtain ⟨g18, hE⟩ := fgd hE hF
      refine aw_iald (f := fa) dX10_told_18 at_facts (vp_in_iff.mpr g18) ?_
      refine aw_goto (tgt := 23) dX10_told_19 (by decide) ?_
      exact aw_iret dX10_told_23 rfl (Nat.zero_le _) (Nat.zero_le _) (Nat.zero_le _) (Nat.zero_le _) ⟨_, _, hE.symm, rfl, rfl, rfl⟩
def F_X10_isShelf (a0 : Int32) : Int32 := if a0 < 0 then ((0 : Int32)) else (if 4 ≤ a0 then ((0 : Int32)) else ((1 : Int32)))
set_option maxRecDepth 100000 in
theorem kF_X10_isShelf (h : aH) (n : Nat) (a0 : Int32) : AM mX10_isShelf 1 [.int a0] h n 0 0 0 0 (isV (.int (F_X10_isShelf a0)) h n) noX := by
  generalize hE : F_X10_isShelf a0 = res
  refine aw_of (by decide +kernel) rfl (Nat.le_of_ble_eq_true rfl) ?_
  unfold F_X10_isShelf at hE
  refine aw_iload_n dX10_isShelf_0 rfl ?_
  refine aw_if_lt (tgt := 13) dX10_isShelf_1 (by decide) (fun c1 => ?_) (fun c1 => ?_)
  · replace hE := fit hE c1
    refine aw_iconst (v := 0) dX10_isShelf_13 (by decide) ?_
    exact aw_zret dX10_isShelf_14 rfl (narB (by decide)) (Nat.zero_le _) (Nat.zero_le _) (Nat.zero_le _) (Nat.zero_le _) ⟨by subst hE; rfl, rfl, rfl⟩
  · replace hE := fif hE c1
    refine aw_iload_n dX10_isShelf_4 rfl ?_
    refine aw_iconst (v := 4) dX10_isShelf_5 (by decide) ?_
    refine aw_icmp_ge (tgt := 13) dX10_isShelf_6 (by decide) (fun c6 => ?_) (fun c6 => ?_)
    · replace hE := fit hE c6
      refine aw_iconst (v := 0) dX10_isShelf_13 (by decide) ?_
      exact aw_zret dX10_isShelf_14 rfl (narB (by decide)) (Nat.zero_le _) (Nat.zero_le _) (Nat.zero_le _) (Nat.zero_le _) ⟨by subst hE; rfl, rfl, rfl⟩
    · replace hE := fif hE c6
      refine aw_iconst (v := 1) dX10_isShelf_9 (by decide) ?_
      refine aw_goto (tgt := 14) dX10_isShelf_10 (by decide) ?_
      exact aw_zret dX10_isShelf_14 rfl (narB (by decide)) (Nat.zero_le _) (Nat.zero_le _) (Nat.zero_le _) (Nat.zero_le _) ⟨by subst hE; rfl, rfl, rfl⟩
def P_X7_isEmpty (m0 : Mnt) (sh : Nat → Nat) (rr : Nat → Ras) (r : Nat) (x : Ras) (ww : Nat → Row) (so : Nat) (sc : Src) (pl : Pal) (qo : Qoi) (pn : Pnm) (bm : Bmp) (tg : Tga) (px : Pcx) (fa : A) (hb : aH) (n : Nat) (res : Out Unit Int32) : Option Value → aH → Nat → Prop := fun r1 h2 n2 => ∃ (a : Int32) (s : Unit), res = fok a s ∧ r1 = some (.int a) ∧ h2 = HC m0 sh (va_up rr r x) ww so sc pl qo pn bm tg px fa hb ∧ n = n2
def F_X7_isEmpty (x : Ras) : Out Unit Int32 := if (x_w x) = 0 then (fok (1 : Int32) ()) else (fok (0 : Int32) ())
set_option maxHeartbeats 1000000 in
set_option maxRecDepth 100000 in
theorem kF_X7_isEmpty (m0 : Mnt) (sh : Nat → Nat) (rr : Nat → Ras) (r : Nat) (x : Ras) (ww : Nat → Row) (so : Nat) (sc : Src) (pl : Pal) (qo : Qoi) (pn : Pnm) (bm : Bmp) (tg : Tga) (px : Pcx) (fa : A) (hb : aH) (n : Nat) (hr : isR r)  (hF : F_X7_isEmpty x ≠ fno) : AM mX7_isEmpty 1 [.ref r] (HC m0 sh (va_up rr r x) ww so sc pl qo pn bm tg px fa hb) n 0 0 0 0 (P_X7_isEmpty m0 sh rr r x ww so sc pl qo pn bm tg px fa hb n (F_X7_isEmpty x)) (fun _ _ _ => False) := by
  generalize hE : F_X7_isEmpty x = res at hF ⊢
  refine aw_of (by decide +kernel) rfl (Nat.le_of_ble_eq_true rfl) ?_
  unfold F_X7_isEmpty at hE
  refine aw_aload_n dX7_isEmpty_0 rfl ?_
  refine aw_getf (v := .int (x_w x)) dX7_isEmpty_1 flX7_15_6 (at_ras hr) rfl ?_
  refine aw_if_ne (tgt := 11) dX7_isEmpty_4 (by decide) (fun c4 => ?_) (fun c4 => ?_)
  · replace hE := fif hE c4
    refine aw_iconst (v := 0) dX7_isEmpty_11 (by decide) ?_
    exact aw_zret dX7_isEmpty_12 rfl (narB (by decide)) (Nat.zero_le _) (Nat.zero_le _) (Nat.zero_le _) (Nat.zero_le _) ⟨_, _, hE.symm, rfl, rfl, rfl⟩
  · replace hE := fit hE c4
    refine aw_iconst (v := 1) dX7_isEmpty_7 (by decide) ?_
    refine aw_goto (tgt := 12) dX7_isEmpty_8 (by decide) ?_
    exact aw_zret dX7_isEmpty_12 rfl (narB (by decide)) (Nat.zero_le _) (Nat.zero_le _) (Nat.zero_le _) (Nat.zero_le _) ⟨_, _, hE.symm, rfl, rfl, rfl⟩
def F_X10_familyOf (a0 : Int32) : Int32 := if a0 < 0 then (((-1) : Int32)) else (if a0 ≤ 17 then (if a0 = 0 then ((0 : Int32)) else (if 7 ≤ a0 then (if 10 ≤ a0 then (if 16 ≤ a0 then ((4 : Int32)) else ((3 : Int32))) else ((2 : Int32))) else ((1 : Int32)))) else (((-1) : Int32)))
set_option maxRecDepth 100000 in
theorem kF_X10_familyOf (h : aH) (n : Nat) (a0 : Int32) : AM mX10_familyOf 1 [.int a0] h n 0 0 0 0 (isV (.int (F_X10_familyOf a0)) h n) noX := by
  generalize hE : F_X10_familyOf a0 = res
  refine aw_of (by decide +kernel) rfl (Nat.le_of_ble_eq_true rfl) ?_
  unfold F_X10_familyOf at hE
  refine aw_iload_n dX10_familyOf_0 rfl ?_
  refine aw_if_lt (tgt := 10) dX10_familyOf_1 (by decide) (fun c1 => ?_) (fun c1 => ?_)
  · replace hE := fit hE c1
    refine aw_iconst (v := (-1)) dX10_familyOf_10 (by decide) ?_
    exact aw_iret dX10_familyOf_11 rfl (Nat.zero_le _) (Nat.zero_le _) (Nat.zero_le _) (Nat.zero_le _) ⟨by subst hE; rfl, rfl, rfl⟩
  · replace hE := fif hE c1
    refine aw_iload_n dX10_familyOf_4 rfl ?_
    refine aw_bipush (v := 17) dX10_familyOf_5 (by decide) ?_
    refine aw_icmp_le (tgt := 12) dX10_familyOf_7 (by decide) (fun c7 => ?_) (fun c7 => ?_)
    · replace hE := fit hE c7
      refine aw_iload_n dX10_familyOf_12 rfl ?_
      refine aw_if_ne (tgt := 18) dX10_familyOf_13 (by decide) (fun c13 => ?_) (fun c13 => ?_)
      · replace hE := fif hE c13
        refine aw_iload_n dX10_familyOf_18 rfl ?_
        refine aw_bipush (v := 7) dX10_familyOf_19 (by decide) ?_
        refine aw_icmp_ge (tgt := 26) dX10_familyOf_21 (by decide) (fun c21 => ?_) (fun c21 => ?_)
        · replace hE := fit hE c21
          refine aw_iload_n dX10_familyOf_26 rfl ?_
          refine aw_bipush (v := 10) dX10_familyOf_27 (by decide) ?_
          refine aw_icmp_ge (tgt := 34) dX10_familyOf_29 (by decide) (fun c29 => ?_) (fun c29 => ?_)
          · replace hE := fit hE c29
            refine aw_iload_n dX10_familyOf_34 rfl ?_
            refine aw_bipush (v := 16) dX10_familyOf_35 (by decide) ?_
            refine aw_icmp_ge (tgt := 44) dX10_familyOf_37 (by decide) (fun c37 => ?_) (fun c37 => ?_)
            · replace hE := fit hE c37
              refine aw_iconst (v := 4) dX10_familyOf_44 (by decide) ?_
              exact aw_iret dX10_familyOf_45 rfl (Nat.zero_le _) (Nat.zero_le _) (Nat.zero_le _) (Nat.zero_le _) ⟨by subst hE; rfl, rfl, rfl⟩
            · replace hE := fif hE c37
              refine aw_iconst (v := 3) dX10_familyOf_40 (by decide) ?_
              refine aw_goto (tgt := 45) dX10_familyOf_41 (by decide) ?_
              exact aw_iret dX10_familyOf_45 rfl (Nat.zero_le _) (Nat.zero_le _) (Nat.zero_le _) (Nat.zero_le _) ⟨by subst hE; rfl, rfl, rfl⟩
          · replace hE := fif hE c29
            refine aw_iconst (v := 2) dX10_familyOf_32 (by decide) ?_
            exact aw_iret dX10_familyOf_33 rfl (Nat.zero_le _) (Nat.zero_le _) (Nat.zero_le _) (Nat.zero_le _) ⟨by subst hE; rfl, rfl, rfl⟩
        · replace hE := fif hE c21
          refine aw_iconst (v := 1) dX10_familyOf_24 (by decide) ?_
          exact aw_iret dX10_familyOf_25 rfl (Nat.zero_le _) (Nat.zero_le _) (Nat.zero_le _) (Nat.zero_le _) ⟨by subst hE; rfl, rfl, rfl⟩
      · replace hE := fit hE c13
        refine aw_iconst (v := 0) dX10_familyOf_16 (by decide) ?_
        exact aw_iret dX10_familyOf_17 rfl (Nat.zero_le _) (Nat.zero_le _) (Nat.zero_le _) (Nat.zero_le _) ⟨by subst hE; rfl, rfl, rfl⟩
    · replace hE := fif hE c7
      refine aw_iconst (v := (-1)) dX10_familyOf_10 (by decide) ?_
      exact aw_iret dX10_familyOf_11 rfl (Nat.zero_le _) (Nat.zero_le _) (Nat.zero_le _) (Nat.zero_le _) ⟨by subst hE; rfl, rfl, rfl⟩
def P_X7_count (m0 : Mnt) (sh : Nat → Nat) (rr : Nat → Ras) (r : Nat) (x : Ras) (ww : Nat → Row) (so : Nat) (sc : Src) (pl : Pal) (qo : Qoi) (pn : Pnm) (bm : Bmp) (tg : Tga) (px : Pcx) (fa : A) (hb : aH) (n : Nat) (res : Out Unit Int32) : Option Value → aH → Nat → Prop := fun r1 h2 n2 => ∃ (a : Int32) (s : Unit), res = fok a s ∧ r1 = some (.int a) ∧ h2 = HC m0 sh (va_up rr r x) ww so sc pl qo pn bm tg px fa hb ∧ n = n2
def F_X7_count (x : Ras) : Out Unit Int32 := fok (((x_w x) * (x_g x)) : Int32) ()
set_option maxHeartbeats 1000000 in
set_option maxRecDepth 100000 in
theorem kF_X7_count (m0 : Mnt) (sh : Nat → Nat) (rr : Nat → Ras) (r : Nat) (x : Ras) (ww : Nat → Row) (so : Nat) (sc : Src) (pl : Pal) (qo : Qoi) (pn : Pnm) (bm : Bmp) (tg : Tga) (px : Pcx) (fa : A) (hb : aH) (n : Nat) (hr : isR r)  (hF : F_X7_count x ≠ fno) : AM mX7_count 1 [.ref r] (HC m0 sh (va_up rr r x) ww so sc pl qo pn bm tg px fa hb) n 0 0 0 0 (P_X7_count m0 sh rr r x ww so sc pl qo pn bm tg px fa hb n (F_X7_count x)) (fun _ _ _ => False) := by
  generalize hE : F_X7_count x = res at hF ⊢
  refine aw_of (by decide +kernel) rfl (Nat.le_of_ble_eq_true rfl) ?_
  unfold F_X7_count at hE
  refine aw_aload_n dX7_count_0 rfl ?_
  refine aw_getf (v := .int (x_w x)) dX7_count_1 flX7_15_6 (at_ras hr) rfl ?_
  refine aw_aload_n dX7_count_4 rfl ?_
  refine aw_getf (v := .int (x_g x)) dX7_count_5 flX7_19_6 (at_ras hr) rfl ?_
  refine aw_imul dX7_count_8 ?_
  exact aw_iret dX7_count_9 rfl (Nat.zero_le _) (Nat.zero_le _) (Nat.zero_le _) (Nat.zero_le _) ⟨_, _, hE.symm, rfl, rfl, rfl⟩
def P_X7_get (m0 : Mnt) (sh : Nat → Nat) (rr : Nat → Ras) (r : Nat) (x : Ras) (ww : Nat → Row) (so : Nat) (sc : Src) (pl : Pal) (qo : Qoi) (pn : Pnm) (bm : Bmp) (tg : Tga) (px : Pcx) (fa : A) (hb : aH) (n : Nat) (res : Out Unit Int32) : Option Value → aH → Nat → Prop := fun r1 h2 n2 => ∃ (a : Int32) (s : Unit), res = fok a s ∧ r1 = some (.int a) ∧ h2 = HC m0 sh (va_up rr r x) ww so sc pl qo pn bm tg px fa hb ∧ n = n2
abbrev Q_X7_get_20 (m0 : Mnt) (sh : Nat → Nat) (rr : Nat → Ras) (r : Nat) (x : Ras) (ww : Nat → Row) (so : Nat) (sc : Src) (pl : Pal) (qo : Qoi) (pn : Pnm) (bm : Bmp) (tg : Tga) (px : Pcx) (fa : A) (hb : aH) (n : Nat) (k : Out Unit Int32) : Prop := ∀  (res : Out Unit Int32), k  = res → res ≠ fno → AW (fun _ _ => True) mX7_get (rmD 1 0 0) 0 0 (P_X7_get m0 sh rr r x ww so sc pl qo pn bm tg px fa hb n res) (fun _ _ _ => False) 0 0 20 [] [] (HC m0 sh (va_up rr r x) ww so sc pl qo pn bm tg px fa hb) n
def F_X7_get_20 (x : Ras)   : Out Unit Int32 := fok (0 : Int32) ()
set_option maxHeartbeats 1000000 in
set_option maxRecDepth 100000 in
theorem b_X7_get_20 (m0 : Mnt) (sh : Nat → Nat) (rr : Nat → Ras) (r : Nat) (x : Ras) (ww : Nat → Row) (so : Nat) (sc : Src) (pl : Pal) (qo : Qoi) (pn : Pnm) (bm : Bmp) (tg : Tga) (px : Pcx) (fa : A) (hb : aH) (n : Nat) (hr : isR r)  : Q_X7_get_20 m0 sh rr r x ww so sc pl qo pn bm tg px fa hb n (F_X7_get_20 x) := by
  intro res hE hF
  unfold F_X7_get_20 at hE
  refine aw_iconst (v := 0) dX7_get_20 (by decide) ?_
  exact aw_iret dX7_get_21 rfl (Nat.zero_le _) (Nat.zero_le _) (Nat.zero_le _) (Nat.zero_le _) ⟨_, _, hE.symm, rfl, rfl, rfl⟩
def F_X7_get (a1 : Int32) (x : Ras) : Out Unit Int32 := if a1 < 0 then (F_X7_get_20 x ) else (if 4096 ≤ a1 then (F_X7_get_20 x ) else (if inb a1 4096 then (fok (((x_p x) (Int32.toNatClampNeg a1)) : Int32) ()) else fno))
set_option maxHeartbeats 1000000 in
set_option maxRecDepth 100000 in
theorem kF_X7_get (m0 : Mnt) (sh : Nat → Nat) (rr : Nat → Ras) (r : Nat) (x : Ras) (ww : Nat → Row) (so : Nat) (sc : Src) (pl : Pal) (qo : Qoi) (pn : Pnm) (bm : Bmp) (tg : Tga) (px : Pcx) (fa : A) (hb : aH) (n : Nat) (hr : isR r) (a1 : Int32) (hF : F_X7_get a1 x ≠ fno) : AM mX7_get 1 [.ref r, .int a1] (HC m0 sh (va_up rr r x) ww so sc pl qo pn bm tg px fa hb) n 0 0 0 0 (P_X7_get m0 sh rr r x ww so sc pl qo pn bm tg px fa hb n (F_X7_get a1 x)) (fun _ _ _ => False) := by
  generalize hE : F_X7_get a1 x = res at hF ⊢
  refine aw_of (by decide +kernel) rfl (Nat.le_of_ble_eq_true rfl) ?_
  unfold F_X7_get at hE
  refine aw_iload_n dX7_get_0 rfl ?_
  refine aw_if_lt (tgt := 20) dX7_get_1 (by decide) (fun c1 => ?_) (fun c1 => ?_)
  · replace hE := fit hE c1
    exact aw_lv _ (fun _ h => absurd h List.not_mem_nil) (b_X7_get_20 m0 sh rr r x ww so sc pl qo pn bm tg px fa hb n hr   _ hE hF)
  · replace hE := fif hE c1
    refine aw_iload_n dX7_get_4 rfl ?_
    refine aw_sipush (v := 4096) dX7_get_5 (by decide) ?_
    refine aw_icmp_ge (tgt := 20) dX7_get_8 (by decide) (fun c8 => ?_) (fun c8 => ?_)
    · replace hE := fit hE c8
      exact aw_lv _ (fun _ h => absurd h List.not_mem_nil) (b_X7_get_20 m0 sh rr r x ww so sc pl qo pn bm tg px fa hb n hr   _ hE hF)
    · replace hE := fif hE c8
      refine aw_aload_n dX7_get_11 rfl ?_
      refine aw_getf (v := .ref (r + 1)) dX7_get_12 flX7_9_6 (at_ras hr) rfl ?_
      refine aw_iload_n dX7_get_15 rfl ?_
      obtain ⟨g16, hE⟩ := fgd hE hF
      refine aw_iald (f := (x_p x)) dX7_get_16 (at_pix hr) (vp_in_iff.mpr g16) ?_
      refine aw_goto (tgt := 21) dX7_get_17 (by decide) ?_
      exact aw_iret dX7_get_21 rfl (Nat.zero_le _) (Nat.zero_le _) (Nat.zero_le _) (Nat.zero_le _) ⟨_, _, hE.symm, rfl, rfl, rfl⟩
def F_X10_alphaOf (a0 : Int32) : Int32 := ((a0 &&& 255) : Int32)
set_option maxRecDepth 100000 in
theorem kF_X10_alphaOf (h : aH) (n : Nat) (a0 : Int32) : AM mX10_alphaOf 1 [.int a0] h n 0 0 0 0 (isV (.int (F_X10_alphaOf a0)) h n) noX := by
  generalize hE : F_X10_alphaOf a0 = res
  refine aw_of (by decide +kernel) rfl (Nat.le_of_ble_eq_true rfl) ?_
  unfold F_X10_alphaOf at hE
  refine aw_iload_n dX10_alphaOf_0 rfl ?_
  refine aw_sipush (v := 255) dX10_alphaOf_1 (by decide) ?_
  refine aw_iand dX10_alphaOf_4 ?_
  exact aw_iret dX10_alphaOf_5 rfl (Nat.zero_le _) (Nat.zero_le _) (Nat.zero_le _) (Nat.zero_le _) ⟨by subst hE; rfl, rfl, rfl⟩
def F_X10_redOf (a0 : Int32) : Int32 := ((us a0 24) : Int32)
set_option maxRecDepth 100000 in
theorem kF_X10_redOf (h : aH) (n : Nat) (a0 : Int32) : AM mX10_redOf 1 [.int a0] h n 0 0 0 0 (isV (.int (F_X10_redOf a0)) h n) noX := by
  generalize hE : F_X10_redOf a0 = res
  refine aw_of (by decide +kernel) rfl (Nat.le_of_ble_eq_true rfl) ?_
  unfold F_X10_redOf at hE
  refine aw_iload_n dX10_redOf_0 rfl ?_
  refine aw_bipush (v := 24) dX10_redOf_1 (by decide) ?_
  refine aw_iushr dX10_redOf_3 ?_
  exact aw_iret dX10_redOf_4 rfl (Nat.zero_le _) (Nat.zero_le _) (Nat.zero_le _) (Nat.zero_le _) ⟨by subst hE; rfl, rfl, rfl⟩
def F_X10_greenOf (a0 : Int32) : Int32 := (((us a0 16) &&& 255) : Int32)
set_option maxRecDepth 100000 in
theorem kF_X10_greenOf (h : aH) (n : Nat) (a0 : Int32) : AM mX10_greenOf 1 [.int a0] h n 0 0 0 0 (isV (.int (F_X10_greenOf a0)) h n) noX := by
  generalize hE : F_X10_greenOf a0 = res
  refine aw_of (by decide +kernel) rfl (Nat.le_of_ble_eq_true rfl) ?_
  unfold F_X10_greenOf at hE
  refine aw_iload_n dX10_greenOf_0 rfl ?_
  refine aw_bipush (v := 16) dX10_greenOf_1 (by decide) ?_
  refine aw_iushr dX10_greenOf_3 ?_
  refine aw_sipush (v := 255) dX10_greenOf_4 (by decide) ?_
  refine aw_iand dX10_greenOf_7 ?_
  exact aw_iret dX10_greenOf_8 rfl (Nat.zero_le _) (Nat.zero_le _) (Nat.zero_le _) (Nat.zero_le _) ⟨by subst hE; rfl, rfl, rfl⟩
def F_X10_blueOf (a0 : Int32) : Int32 := (((us a0 8) &&& 255) : Int32)
set_option maxRecDepth 100000 in
theorem kF_X10_blueOf (h : aH) (n : Nat) (a0 : Int32) : AM mX10_blueOf 1 [.int a0] h n 0 0 0 0 (isV (.int (F_X10_blueOf a0)) h n) noX := by
  generalize hE : F_X10_blueOf a0 = res
  refine aw_of (by decide +kernel) rfl (Nat.le_of_ble_eq_true rfl) ?_
  unfold F_X10_blueOf at hE
  refine aw_iload_n dX10_blueOf_0 rfl ?_
  refine aw_bipush (v := 8) dX10_blueOf_1 (by decide) ?_
  refine aw_iushr dX10_blueOf_3 ?_
  refine aw_sipush (v := 255) dX10_blueOf_4 (by decide) ?_
  refine aw_iand dX10_blueOf_7 ?_
  exact aw_iret dX10_blueOf_8 rfl (Nat.zero_le _) (Nat.zero_le _) (Nat.zero_le _) (Nat.zero_le _) ⟨by subst hE; rfl, rfl, rfl⟩
def P_X3_slotOf (m0 : Mnt) (sh : Nat → Nat) (rr : Nat → Ras) (ww : Nat → Row) (so : Nat) (sc : Src) (pl : Pal) (qo : Qoi) (pn : Pnm) (bm : Bmp) (tg : Tga) (px : Pcx) (fa : A) (hb : aH) (n : Nat) (res : Out Unit Int32) : Option Value → aH → Nat → Prop := fun r1 h2 n2 => ∃ (a : Int32) (s : Unit), res = fok a s ∧ r1 = some (.int a) ∧ h2 = HC m0 sh rr ww so sc pl qo pn bm tg px fa hb ∧ n = n2
abbrev Q_X3_slotOf_26 (m0 : Mnt) (sh : Nat → Nat) (rr : Nat → Ras) (ww : Nat → Row) (so : Nat) (sc : Src) (pl : Pal) (qo : Qoi) (pn : Pnm) (bm : Bmp) (tg : Tga) (px : Pcx) (fa : A) (hb : aH) (n : Nat) (k : Int32 → Int32 → Int32 → Out Unit Int32) : Prop := ∀ (v1 : Int32) (v3 : Int32) (v4 : Int32) (res : Out Unit Int32), k v1 v3 v4 = res → res ≠ fno → AW (fun _ _ => True) mX3_slotOf (rmD 1 0 0) 0 0 (P_X3_slotOf m0 sh rr ww so sc pl qo pn bm tg px fa hb n res) (fun _ _ _ => False) 0 0 26 [(0, .ref 17), (1, .int v1), (3, .int v3), (4, .int v4)] [] (HC m0 sh rr ww so sc pl qo pn bm tg px fa hb) n
abbrev Q_X3_slotOf_60 (m0 : Mnt) (sh : Nat → Nat) (rr : Nat → Ras) (ww : Nat → Row) (so : Nat) (sc : Src) (pl : Pal) (qo : Qoi) (pn : Pnm) (bm : Bmp) (tg : Tga) (px : Pcx) (fa : A) (hb : aH) (n : Nat) (k : Int32 → Out Unit Int32) : Prop := ∀ (v3 : Int32) (res : Out Unit Int32), k v3 = res → res ≠ fno → AW (fun _ _ => True) mX3_slotOf (rmD 1 0 0) 0 0 (P_X3_slotOf m0 sh rr ww so sc pl qo pn bm tg px fa hb n res) (fun _ _ _ => False) 0 0 60 [(3, .int v3)] [] (HC m0 sh rr ww so sc pl qo pn bm tg px fa hb) n
def F_X3_slotOf_60 (pl : Pal)  (v3 : Int32) : Out Unit Int32 := fok (v3 : Int32) ()
set_option maxHeartbeats 1000000 in
set_option maxRecDepth 100000 in
theorem b_X3_slotOf_60 (m0 : Mnt) (sh : Nat → Nat) (rr : Nat → Ras) (ww : Nat → Row) (so : Nat) (sc : Src) (pl : Pal) (qo : Qoi) (pn : Pnm) (bm : Bmp) (tg : Tga) (px : Pcx) (fa : A) (hb : aH) (n : Nat)   : Q_X3_slotOf_60 m0 sh rr ww so sc pl qo pn bm tg px fa hb n (F_X3_slotOf_60 pl) := by
  intro v3 res hE hF
  unfold F_X3_slotOf_60 at hE
  refine aw_iload_n dX3_slotOf_60 rfl ?_
  exact aw_iret dX3_slotOf_61 rfl (Nat.zero_le _) (Nat.zero_le _) (Nat.zero_le _) (Nat.zero_le _) ⟨_, _, hE.symm, rfl, rfl, rfl⟩
def F_X3_slotOf_26 (pl : Pal) (k26 : Int32 → Int32 → Int32 → Out Unit Int32) (v1 : Int32) (v3 : Int32) (v4 : Int32) : Out Unit Int32 := if 8192 ≤ v4 then (fok (v3 : Int32) ()) else (if inb v3 8192 then (if (((pl_slot pl) (Int32.toNatClampNeg v3)) - 1) < 0 then (F_X3_slotOf_60 pl v3) else (if inb (((pl_slot pl) (Int32.toNatClampNeg v3)) - 1) 4096 then (if ((pl_col pl) (Int32.toNatClampNeg (((pl_slot pl) (Int32.toNatClampNeg v3)) - 1))) = v1 then (F_X3_slotOf_60 pl v3) else (k26 v1 ((v3 + 1) &&& 8191) (v4 + 1))) else fno)) else fno)
set_option maxHeartbeats 1000000 in
set_option maxRecDepth 100000 in
theorem b_X3_slotOf_26 (m0 : Mnt) (sh : Nat → Nat) (rr : Nat → Ras) (ww : Nat → Row) (so : Nat) (sc : Src) (pl : Pal) (qo : Qoi) (pn : Pnm) (bm : Bmp) (tg : Tga) (px : Pcx) (fa : A) (hb : aH) (n : Nat)  (k26 : Int32 → Int32 → Int32 → Out Unit Int32) (hk26 : Q_X3_slotOf_26 m0 sh rr ww so sc pl qo pn bm tg px fa hb n k26) : Q_X3_slotOf_26 m0 sh rr ww so sc pl qo pn bm tg px fa hb n (F_X3_slotOf_26 pl k26) := by
  intro v1 v3 v4 res hE hF
  unfold F_X3_slotOf_26 at hE
  refine aw_iload dX3_slotOf_26 rfl ?_
  refine aw_sipush (v := 8192) dX3_slotOf_28 (by decide) ?_
  refine aw_icmp_ge (tgt := 76) dX3_slotOf_31 (by decide) (fun c31 => ?_) (fun c31 => ?_)
  · replace hE := fit hE c31
    refine aw_iload_n dX3_slotOf_76 rfl ?_
    exact aw_iret dX3_slotOf_77 rfl (Nat.zero_le _) (Nat.zero_le _) (Nat.zero_le _) (Nat.zero_le _) ⟨_, _, hE.symm, rfl, rfl, rfl⟩
  · replace hE := fif hE c31
    refine aw_aload_n dX3_slotOf_34 rfl ?_
    refine aw_getf (v := .ref 19) dX3_slotOf_35 flX3_15_2 at_pal rfl ?_
    refine aw_iload_n dX3_slotOf_38 rfl ?_
    obtain ⟨g39, hE⟩ := fgd hE hF
    refine aw_iald (f := (pl_slot pl)) dX3_slotOf_39 at_palslot (vp_in_iff.mpr g39) ?_
    refine aw_iconst (v := 1) dX3_slotOf_40 (by decide) ?_
    refine aw_isub dX3_slotOf_41 ?_
    refine aw_istore (lv2 := [(5, _), (0, _), (1, _), (3, _), (4, _)]) dX3_slotOf_42 (by decide) rfl ?_
    refine aw_iload dX3_slotOf_44 rfl ?_
    refine aw_if_lt (tgt := 60) dX3_slotOf_46 (by decide) (fun c46 => ?_) (fun c46 => ?_)
    · replace hE := fit hE c46
      exact aw_lv _ (List.forall_mem_cons.mpr ⟨rfl, fun _ h => absurd h List.not_mem_nil⟩) (b_X3_slotOf_60 m0 sh rr ww so sc pl qo pn bm tg px fa hb n   v3 _ hE hF)
    · replace hE := fif hE c46
      refine aw_aload_n dX3_slotOf_49 rfl ?_
      refine aw_getf (v := .ref 18) dX3_slotOf_50 flX3_9_2 at_pal rfl ?_
      refine aw_iload dX3_slotOf_53 rfl ?_
      obtain ⟨g55, hE⟩ := fgd hE hF
      refine aw_iald (f := (pl_col pl)) dX3_slotOf_55 at_palcol (vp_in_iff.mpr g55) ?_
      refine aw_iload_n dX3_slotOf_56 rfl ?_
      refine aw_icmp_ne (tgt := 62) dX3_slotOf_57 (by decide) (fun c57 => ?_) (fun c57 => ?_)
      · replace hE := fif hE c57
        refine aw_iload_n dX3_slotOf_62 rfl ?_
        refine aw_iconst (v := 1) dX3_slotOf_63 (by decide) ?_
        refine aw_iadd dX3_slotOf_64 ?_
        refine aw_sipush (v := 8191) dX3_slotOf_65 (by decide) ?_
        refine aw_iand dX3_slotOf_68 ?_
        refine aw_istore_n (lv2 := [(3, _), (5, _), (0, _), (1, _), (4, _)]) dX3_slotOf_69 (by decide) rfl ?_
        refine aw_iinc (v := (v4 + 1)) (lv2 := [(4, _), (3, _), (5, _), (0, _), (1, _)]) dX3_slotOf_70 rfl (incE (by decide)) (by decide) rfl ?_
        refine aw_goto (tgt := 26) dX3_slotOf_73 (by decide) ?_
        exact aw_lv _ (List.forall_mem_cons.mpr ⟨rfl, (List.forall_mem_cons.mpr ⟨rfl, (List.forall_mem_cons.mpr ⟨rfl, (List.forall_mem_cons.mpr ⟨rfl, fun _ h => absurd h List.not_mem_nil⟩)⟩)⟩)⟩) (hk26 v1 ((v3 + 1) &&& 8191) (v4 + 1) _ hE hF)
      · replace hE := fit hE c57
        exact aw_lv _ (List.forall_mem_cons.mpr ⟨rfl, fun _ h => absurd h List.not_mem_nil⟩) (b_X3_slotOf_60 m0 sh rr ww so sc pl qo pn bm tg px fa hb n   v3 _ hE hF)
def F_X3_slotOf (a1 : Int32) (pl : Pal) : Out Unit Int32 := lp (fun _ _ _ => fno) (F_X3_slotOf_26 pl) FU a1 (us ((((a1 ^^^ (us a1 15)) * 739982445) ^^^ (us ((a1 ^^^ (us a1 15)) * 739982445) 12)) * 695872825) 19) (0 : Int32)
set_option maxHeartbeats 1000000 in
set_option maxRecDepth 100000 in
theorem kF_X3_slotOf (m0 : Mnt) (sh : Nat → Nat) (rr : Nat → Ras) (ww : Nat → Row) (so : Nat) (sc : Src) (pl : Pal) (qo : Qoi) (pn : Pnm) (bm : Bmp) (tg : Tga) (px : Pcx) (fa : A) (hb : aH) (n : Nat)  (a1 : Int32) (hF : F_X3_slotOf a1 pl ≠ fno) : AM mX3_slotOf 1 [.ref 17, .int a1] (HC m0 sh rr ww so sc pl qo pn bm tg px fa hb) n 0 0 0 0 (P_X3_slotOf m0 sh rr ww so sc pl qo pn bm tg px fa hb n (F_X3_slotOf a1 pl)) (fun _ _ _ => False) := by
  generalize hE : F_X3_slotOf a1 pl = res at hF ⊢
  refine aw_of (by decide +kernel) rfl (Nat.le_of_ble_eq_true rfl) ?_
  unfold F_X3_slotOf at hE
  refine aw_iload_n dX3_slotOf_0 rfl ?_
  refine aw_iload_n dX3_slotOf_1 rfl ?_
  refine aw_bipush (v := 15) dX3_slotOf_2 (by decide) ?_
  refine aw_iushr dX3_slotOf_4 ?_
  refine aw_ixor dX3_slotOf_5 ?_
  refine aw_ldc dX3_slotOf_6 kcX3_46 ?_
  refine aw_imul dX3_slotOf_8 ?_
  refine aw_istore_n (lv2 := [(2, _), (0, _), (1, _)]) dX3_slotOf_9 (by decide) rfl ?_
  refine aw_iload_n dX3_slotOf_10 rfl ?_
  refine aw_iload_n dX3_slotOf_11 rfl ?_
  refine aw_bipush (v := 12) dX3_slotOf_12 (by decide) ?_
  refine aw_iushr dX3_slotOf_14 ?_
  refine aw_ixor dX3_slotOf_15 ?_
  refine aw_ldc dX3_slotOf_16 kcX3_47 ?_
  refine aw_imul dX3_slotOf_18 ?_
  refine aw_bipush (v := 19) dX3_slotOf_19 (by decide) ?_
  refine aw_iushr dX3_slotOf_21 ?_
  refine aw_istore_n (lv2 := [(3, _), (2, _), (0, _), (1, _)]) dX3_slotOf_22 (by decide) rfl ?_
  refine aw_iconst (v := 0) dX3_slotOf_23 (by decide) ?_
  refine aw_istore (lv2 := [(4, _), (3, _), (2, _), (0, _), (1, _)]) dX3_slotOf_24 (by decide) rfl ?_
  exact aw_lv _ (List.forall_mem_cons.mpr ⟨rfl, (List.forall_mem_cons.mpr ⟨rfl, (List.forall_mem_cons.mpr ⟨rfl, (List.forall_mem_cons.mpr ⟨rfl, fun _ h => absurd h List.not_mem_nil⟩)⟩)⟩)⟩) (lp_ind (Q_X3_slotOf_26 m0 sh rr ww so sc pl qo pn bm tg px fa hb n) (fun _ _ _ res hq hF => (hF hq.symm).elim) (fun k hk => b_X3_slotOf_26 m0 sh rr ww so sc pl qo pn bm tg px fa hb n   k hk) FU a1 (us ((((a1 ^^^ (us a1 15)) * 739982445) ^^^ (us ((a1 ^^^ (us a1 15)) * 739982445) 12)) * 695872825) 19) (0 : Int32) _ hE hF)
def P_X1_addZeros (m0 : Mnt) (sh : Nat → Nat) (rr : Nat → Ras) (ww : Nat → Row) (o : Nat) (so : Nat) (sc : Src) (pl : Pal) (qo : Qoi) (pn : Pnm) (bm : Bmp) (tg : Tga) (px : Pcx) (fa : A) (hb : aH) (n : Nat) (res : Out Row Unit) : Option Value → aH → Nat → Prop := fun r1 h2 n2 => ∃ (a : Unit) (s : Row), res = fok a s ∧ r1 = none ∧ h2 = HC m0 sh rr (va_up ww o s) so sc pl qo pn bm tg px fa hb ∧ n = n2
abbrev Q_X1_addZeros_2 (m0 : Mnt) (sh : Nat → Nat) (rr : Nat → Ras) (ww : Nat → Row) (o : Nat) (so : Nat) (sc : Src) (pl : Pal) (qo : Qoi) (pn : Pnm) (bm : Bmp) (tg : Tga) (px : Pcx) (fa : A) (hb : aH) (n : Nat) (k : Int32 → Int32 → Row → Out Row Unit) : Prop := ∀ (v1 : Int32) (v2 : Int32) (y : Row) (res : Out Row Unit), k v1 v2 y = res → res ≠ fno → AW (fun _ _ => True) mX1_addZeros (rmD 2 0 0) 0 0 (P_X1_addZeros m0 sh rr ww o so sc pl qo pn bm tg px fa hb n res) (fun _ _ _ => False) 0 0 2 [(0, .ref o), (1, .int v1), (2, .int v2)] [] (HC m0 sh rr (va_up ww o y) so sc pl qo pn bm tg px fa hb) n
def F_X1_addZeros_2  (k2 : Int32 → Int32 → Row → Out Row Unit) (v1 : Int32) (v2 : Int32) (y : Row) : Out Row Unit := if v1 ≤ v2 then (fok () y) else (fon (F_X1_add 0 y) (fun z9 s9 => k2 v1 (v2 + 1) s9) (fun _ _ => fno))
set_option maxHeartbeats 1000000 in
set_option maxRecDepth 100000 in
theorem b_X1_addZeros_2 (m0 : Mnt) (sh : Nat → Nat) (rr : Nat → Ras) (ww : Nat → Row) (o : Nat) (so : Nat) (sc : Src) (pl : Pal) (qo : Qoi) (pn : Pnm) (bm : Bmp) (tg : Tga) (px : Pcx) (fa : A) (hb : aH) (n : Nat) (ho : isW o) (k2 : Int32 → Int32 → Row → Out Row Unit) (hk2 : Q_X1_addZeros_2 m0 sh rr ww o so sc pl qo pn bm tg px fa hb n k2) : Q_X1_addZeros_2 m0 sh rr ww o so sc pl qo pn bm tg px fa hb n (F_X1_addZeros_2 k2) := by
  intro v1 v2 y res hE hF
  unfold F_X1_addZeros_2 at hE
  refine aw_iload_n dX1_addZeros_2 rfl ?_
  refine aw_iload_n dX1_addZeros_3 rfl ?_
  refine aw_icmp_ge (tgt := 18) dX1_addZeros_4 (by decide) (fun c4 => ?_) (fun c4 => ?_)
  · replace hE := fit hE c4
    exact aw_vret dX1_addZeros_18 rfl (Nat.zero_le _) (Nat.zero_le _) (Nat.zero_le _) (Nat.zero_le _) ⟨_, _, hE.symm, rfl, rfl, rfl⟩
  · replace hE := fif hE c4
    refine aw_aload_n dX1_addZeros_7 rfl ?_
    refine aw_iconst (v := 0) dX1_addZeros_8 (by decide) ?_
    refine aw_callV dX1_addZeros_9 (at_row ho) cvX1_20 rfl (kF_X1_add m0 sh rr ww o y so sc pl qo pn bm tg px fa hb _ ho 0 (fon_ne hE hF)) rfl (Nat.le_of_ble_eq_true rfl) (by decide) (by decide) (by decide) (by decide) (fun _ _ _ hf => False.elim hf) (fun r9 h9 n9 hp9 => ?_)
    obtain ⟨z9, s9, e9, rfl, rfl, rfl⟩ := hp9
    replace hE := fon_ok e9 hE
    refine aw_iinc (v := (v2 + 1)) (lv2 := [(2, _), (0, _), (1, _)]) dX1_addZeros_12 rfl (incE (by decide)) (by decide) rfl ?_
    refine aw_goto (tgt := 2) dX1_addZeros_15 (by decide) ?_
    exact aw_lv _ (List.forall_mem_cons.mpr ⟨rfl, (List.forall_mem_cons.mpr ⟨rfl, (List.forall_mem_cons.mpr ⟨rfl, fun _ h => absurd h List.not_mem_nil⟩)⟩)⟩) (hk2 v1 (v2 + 1) s9 _ hE hF)
def F_X1_addZeros (a1 : Int32) (y : Row) : Out Row Unit := lp (fun _ _ _ => fno) (F_X1_addZeros_2 ) FU a1 (0 : Int32) y
set_option maxHeartbeats 1000000 in
set_option maxRecDepth 100000 in
theorem kF_X1_addZeros (m0 : Mnt) (sh : Nat → Nat) (rr : Nat → Ras) (ww : Nat → Row) (o : Nat) (y : Row) (so : Nat) (sc : Src) (pl : Pal) (qo : Qoi) (pn : Pnm) (bm : Bmp) (tg : Tga) (px : Pcx) (fa : A) (hb : aH) (n : Nat) (ho : isW o) (a1 : Int32) (hF : F_X1_addZeros a1 y ≠ fno) : AM mX1_addZeros 2 [.ref o, .int a1] (HC m0 sh rr (va_up ww o y) so sc pl qo pn bm tg px fa hb) n 0 0 0 0 (P_X1_addZeros m0 sh rr ww o so sc pl qo pn bm tg px fa hb n (F_X1_addZeros a1 y)) (fun _ _ _ => False) := by
  generalize hE : F_X1_addZeros a1 y = res at hF ⊢
  refine aw_of (by decide +kernel) rfl (Nat.le_of_ble_eq_true rfl) ?_
  unfold F_X1_addZeros at hE
  refine aw_iconst (v := 0) dX1_addZeros_0 (by decide) ?_
  refine aw_istore_n (lv2 := [(2, _), (0, _), (1, _)]) dX1_addZeros_1 (by decide) rfl ?_
  exact aw_lv _ (List.forall_mem_cons.mpr ⟨rfl, (List.forall_mem_cons.mpr ⟨rfl, (List.forall_mem_cons.mpr ⟨rfl, fun _ h => absurd h List.not_mem_nil⟩)⟩)⟩) (lp_ind (Q_X1_addZeros_2 m0 sh rr ww o so sc pl qo pn bm tg px fa hb n) (fun _ _ _ res hq hF => (hF hq.symm).elim) (fun k hk => b_X1_addZeros_2 m0 sh rr ww o so sc pl qo pn bm tg px fa hb n ho  k hk) FU a1 (0 : Int32) y _ hE hF)
def P_X1_addLow2 (m0 : Mnt) (sh : Nat → Nat) (rr : Nat → Ras) (ww : Nat → Row) (o : Nat) (so : Nat) (sc : Src) (pl : Pal) (qo : Qoi) (pn : Pnm) (bm : Bmp) (tg : Tga) (px : Pcx) (fa : A) (hb : aH) (n : Nat) (res : Out Row Unit) : Option Value → aH → Nat → Prop := fun r1 h2 n2 => ∃ (a : Unit) (s : Row), res = fok a s ∧ r1 = none ∧ h2 = HC m0 sh rr (va_up ww o s) so sc pl qo pn bm tg px fa hb ∧ n = n2
def F_X1_addLow2 (a1 : Int32) (y : Row) : Out Row Unit := fon (F_X1_add a1 y) (fun z2 s2 => fon (F_X1_add (a1 >>> ((8 : Int32) &&& 31)) s2) (fun z10 s10 => fok () s10) (fun _ _ => fno)) (fun _ _ => fno)
set_option maxHeartbeats 1000000 in
set_option maxRecDepth 100000 in
theorem kF_X1_addLow2 (m0 : Mnt) (sh : Nat → Nat) (rr : Nat → Ras) (ww : Nat → Row) (o : Nat) (y : Row) (so : Nat) (sc : Src) (pl : Pal) (qo : Qoi) (pn : Pnm) (bm : Bmp) (tg : Tga) (px : Pcx) (fa : A) (hb : aH) (n : Nat) (ho : isW o) (a1 : Int32) (hF : F_X1_addLow2 a1 y ≠ fno) : AM mX1_addLow2 2 [.ref o, .int a1] (HC m0 sh rr (va_up ww o y) so sc pl qo pn bm tg px fa hb) n 0 0 0 0 (P_X1_addLow2 m0 sh rr ww o so sc pl qo pn bm tg px fa hb n (F_X1_addLow2 a1 y)) (fun _ _ _ => False) := by
  generalize hE : F_X1_addLow2 a1 y = res at hF ⊢
  refine aw_of (by decide +kernel) rfl (Nat.le_of_ble_eq_true rfl) ?_
  unfold F_X1_addLow2 at hE
  refine aw_aload_n dX1_addLow2_0 rfl ?_
  refine aw_iload_n dX1_addLow2_1 rfl ?_
  refine aw_callV dX1_addLow2_2 (at_row ho) cvX1_20 rfl (kF_X1_add m0 sh rr ww o y so sc pl qo pn bm tg px fa hb _ ho a1 (fon_ne hE hF)) rfl (Nat.le_of_ble_eq_true rfl) (by decide) (by decide) (by decide) (by decide) (fun _ _ _ hf => False.elim hf) (fun r2 h2 n2 hp2 => ?_)
  obtain ⟨z2, s2, e2, rfl, rfl, rfl⟩ := hp2
  replace hE := fon_ok e2 hE
  refine aw_aload_n dX1_addLow2_5 rfl ?_
  refine aw_iload_n dX1_addLow2_6 rfl ?_
  refine aw_bipush (v := 8) dX1_addLow2_7 (by decide) ?_
  refine aw_ishr dX1_addLow2_9 ?_
  refine aw_callV dX1_addLow2_10 (at_row ho) cvX1_20 rfl (kF_X1_add m0 sh rr ww o s2 so sc pl qo pn bm tg px fa hb _ ho (a1 >>> ((8 : Int32) &&& 31)) (fon_ne hE hF)) rfl (Nat.le_of_ble_eq_true rfl) (by decide) (by decide) (by decide) (by decide) (fun _ _ _ hf => False.elim hf) (fun r10 h10 n10 hp10 => ?_)
  obtain ⟨z10, s10, e10, rfl, rfl, rfl⟩ := hp10
  replace hE := fon_ok e10 hE
  exact aw_vret dX1_addLow2_13 rfl (Nat.zero_le _) (Nat.zero_le _) (Nat.zero_le _) (Nat.zero_le _) ⟨_, _, hE.symm, rfl, rfl, rfl⟩
def P_X3_get (m0 : Mnt) (sh : Nat → Nat) (rr : Nat → Ras) (ww : Nat → Row) (so : Nat) (sc : Src) (pl : Pal) (qo : Qoi) (pn : Pnm) (bm : Bmp) (tg : Tga) (px : Pcx) (fa : A) (hb : aH) (n : Nat) (res : Out Unit Int32) : Option Value → aH → Nat → Prop := fun r1 h2 n2 => ∃ (a : Int32) (s : Unit), res = fok a s ∧ r1 = some (.int a) ∧ h2 = HC m0 sh rr ww so sc pl qo pn bm tg px fa hb ∧ n = n2
abbrev Q_X3_get_21 (m0 : Mnt) (sh : Nat → Nat) (rr : Nat → Ras) (ww : Nat → Row) (so : Nat) (sc : Src) (pl : Pal) (qo : Qoi) (pn : Pnm) (bm : Bmp) (tg : Tga) (px : Pcx) (fa : A) (hb : aH) (n : Nat) (k : Out Unit Int32) : Prop := ∀  (res : Out Unit Int32), k  = res → res ≠ fno → AW (fun _ _ => True) mX3_get (rmD 1 0 0) 0 0 (P_X3_get m0 sh rr ww so sc pl qo pn bm tg px fa hb n res) (fun _ _ _ => False) 0 0 21 [] [] (HC m0 sh rr ww so sc pl qo pn bm tg px fa hb) n
def F_X3_get_21 (pl : Pal)   : Out Unit Int32 := fok (0 : Int32) ()
set_option maxHeartbeats 1000000 in
set_option maxRecDepth 100000 in
theorem b_X3_get_21 (m0 : Mnt) (sh : Nat → Nat) (rr : Nat → Ras) (ww : Nat → Row) (so : Nat) (sc : Src) (pl : Pal) (qo : Qoi) (pn : Pnm) (bm : Bmp) (tg : Tga) (px : Pcx) (fa : A) (hb : aH) (n : Nat)   : Q_X3_get_21 m0 sh rr ww so sc pl qo pn bm tg px fa hb n (F_X3_get_21 pl) := by
  intro res hE hF
  unfold F_X3_get_21 at hE
  refine aw_iconst (v := 0) dX3_get_21 (by decide) ?_
  exact aw_iret dX3_get_22 rfl (Nat.zero_le _) (Nat.zero_le _) (Nat.zero_le _) (Nat.zero_le _) ⟨_, _, hE.symm, rfl, rfl, rfl⟩
def F_X3_get (a1 : Int32) (pl : Pal) : Out Unit Int32 := if a1 < 0 then (F_X3_get_21 pl ) else (if (pl_n pl) ≤ a1 then (F_X3_get_21 pl ) else (if inb a1 4096 then (fok (((pl_col pl) (Int32.toNatClampNeg a1)) : Int32) ()) else fno))
set_option maxHeartbeats 1000000 in
set_option maxRecDepth 100000 in
theorem kF_X3_get (m0 : Mnt) (sh : Nat → Nat) (rr : Nat → Ras) (ww : Nat → Row) (so : Nat) (sc : Src) (pl : Pal) (qo : Qoi) (pn : Pnm) (bm : Bmp) (tg : Tga) (px : Pcx) (fa : A) (hb : aH) (n : Nat)  (a1 : Int32) (hF : F_X3_get a1 pl ≠ fno) : AM mX3_get 1 [.ref 17, .int a1] (HC m0 sh rr ww so sc pl qo pn bm tg px fa hb) n 0 0 0 0 (P_X3_get m0 sh rr ww so sc pl qo pn bm tg px fa hb n (F_X3_get a1 pl)) (fun _ _ _ => False) := by
  generalize hE : F_X3_get a1 pl = res at hF ⊢
  refine aw_of (by decide +kernel) rfl (Nat.le_of_ble_eq_true rfl) ?_
  unfold F_X3_get at hE
  refine aw_iload_n dX3_get_0 rfl ?_
  refine aw_if_lt (tgt := 21) dX3_get_1 (by decide) (fun c1 => ?_) (fun c1 => ?_)
  · replace hE := fit hE c1
    exact aw_lv _ (fun _ h => absurd h List.not_mem_nil) (b_X3_get_21 m0 sh rr ww so sc pl qo pn bm tg px fa hb n    _ hE hF)
  · replace hE := fif hE c1
    refine aw_iload_n dX3_get_4 rfl ?_
    refine aw_aload_n dX3_get_5 rfl ?_
    refine aw_getf (v := .int (pl_n pl)) dX3_get_6 flX3_24_2 at_pal rfl ?_
    refine aw_icmp_ge (tgt := 21) dX3_get_9 (by decide) (fun c9 => ?_) (fun c9 => ?_)
    · replace hE := fit hE c9
      exact aw_lv _ (fun _ h => absurd h List.not_mem_nil) (b_X3_get_21 m0 sh rr ww so sc pl qo pn bm tg px fa hb n    _ hE hF)
    · replace hE := fif hE c9
      refine aw_aload_n dX3_get_12 rfl ?_
      refine aw_getf (v := .ref 18) dX3_get_13 flX3_9_2 at_pal rfl ?_
      refine aw_iload_n dX3_get_16 rfl ?_
      obtain ⟨g17, hE⟩ := fgd hE hF
      refine aw_iald (f := (pl_col pl)) dX3_get_17 at_palcol (vp_in_iff.mpr g17) ?_
      refine aw_goto (tgt := 22) dX3_get_18 (by decide) ?_
      exact aw_iret dX3_get_22 rfl (Nat.zero_le _) (Nat.zero_le _) (Nat.zero_le _) (Nat.zero_le _) ⟨_, _, hE.symm, rfl, rfl, rfl⟩
def P_X0_writeBlueFirst (m0 : Mnt) (sh : Nat → Nat) (rr : Nat → Ras) (ww : Nat → Row) (o : Nat) (so : Nat) (sc : Src) (pl : Pal) (qo : Qoi) (pn : Pnm) (bm : Bmp) (tg : Tga) (px : Pcx) (fa : A) (hb : aH) (n : Nat) (res : Out Row Unit) : Option Value → aH → Nat → Prop := fun r1 h2 n2 => ∃ (a : Unit) (s : Row), res = fok a s ∧ r1 = none ∧ h2 = HC m0 sh rr (va_up ww o s) so sc pl qo pn bm tg px fa hb ∧ n = n2
def F_X0_writeBlueFirst (a0 : Int32) (y : Row) : Out Row Unit := fon (F_X1_add (F_X10_blueOf a0) y) (fun z5 s5 => fon (F_X1_add (F_X10_greenOf a0) s5) (fun z13 s13 => fon (F_X1_add (F_X10_redOf a0) s13) (fun z21 s21 => fok () s21) (fun _ _ => fno)) (fun _ _ => fno)) (fun _ _ => fno)
set_option maxHeartbeats 1000000 in
set_option maxRecDepth 100000 in
theorem kF_X0_writeBlueFirst (m0 : Mnt) (sh : Nat → Nat) (rr : Nat → Ras) (ww : Nat → Row) (o : Nat) (y : Row) (so : Nat) (sc : Src) (pl : Pal) (qo : Qoi) (pn : Pnm) (bm : Bmp) (tg : Tga) (px : Pcx) (fa : A) (hb : aH) (n : Nat) (ho : isW o) (a0 : Int32) (hF : F_X0_writeBlueFirst a0 y ≠ fno) : AM mX0_writeBlueFirst 2 [.int a0, .ref o] (HC m0 sh rr (va_up ww o y) so sc pl qo pn bm tg px fa hb) n 0 0 0 0 (P_X0_writeBlueFirst m0 sh rr ww o so sc pl qo pn bm tg px fa hb n (F_X0_writeBlueFirst a0 y)) (fun _ _ _ => False) := by
  generalize hE : F_X0_writeBlueFirst a0 y = res at hF ⊢
  refine aw_of (by decide +kernel) rfl (Nat.le_of_ble_eq_true rfl) ?_
  unfold F_X0_writeBlueFirst at hE
  refine aw_aload_n dX0_writeBlueFirst_0 rfl ?_
  refine aw_iload_n dX0_writeBlueFirst_1 rfl ?_
  refine aw_callSN dX0_writeBlueFirst_2  csX0_224 rfl (kF_X10_blueOf _ _ a0) rfl (Nat.le_of_ble_eq_true rfl) (by decide) (by decide) (by decide) (by decide)  (fun r2 h2 n2 hp2 => ?_)
  obtain ⟨rfl, rfl, rfl⟩ := hp2
  refine aw_callV dX0_writeBlueFirst_5 (at_row ho) cvX0_198 rfl (kF_X1_add m0 sh rr ww o y so sc pl qo pn bm tg px fa hb _ ho (F_X10_blueOf a0) (fon_ne hE hF)) rfl (Nat.le_of_ble_eq_true rfl) (by decide) (by decide) (by decide) (by decide) (fun _ _ _ hf => False.elim hf) (fun r5 h5 n5 hp5 => ?_)
  obtain ⟨z5, s5, e5, rfl, rfl, rfl⟩ := hp5
  replace hE := fon_ok e5 hE
  refine aw_aload_n dX0_writeBlueFirst_8 rfl ?_
  refine aw_iload_n dX0_writeBlueFirst_9 rfl ?_
  refine aw_callSN dX0_writeBlueFirst_10  csX0_227 rfl (kF_X10_greenOf _ _ a0) rfl (Nat.le_of_ble_eq_true rfl) (by decide) (by decide) (by decide) (by decide)  (fun r10 h10 n10 hp10 => ?_)
  obtain ⟨rfl, rfl, rfl⟩ := hp10
  refine aw_callV dX0_writeBlueFirst_13 (at_row ho) cvX0_198 rfl (kF_X1_add m0 sh rr ww o s5 so sc pl qo pn bm tg px fa hb _ ho (F_X10_greenOf a0) (fon_ne hE hF)) rfl (Nat.le_of_ble_eq_true rfl) (by decide) (by decide) (by decide) (by decide) (fun _ _ _ hf => False.elim hf) (fun r13 h13 n13 hp13 => ?_)
  obtain ⟨z13, s13, e13, rfl, rfl, rfl⟩ := hp13
  replace hE := fon_ok e13 hE
  refine aw_aload_n dX0_writeBlueFirst_16 rfl ?_
  refine aw_iload_n dX0_writeBlueFirst_17 rfl ?_
  refine aw_callSN dX0_writeBlueFirst_18  csX0_230 rfl (kF_X10_redOf _ _ a0) rfl (Nat.le_of_ble_eq_true rfl) (by decide) (by decide) (by decide) (by decide)  (fun r18 h18 n18 hp18 => ?_)
  obtain ⟨rfl, rfl, rfl⟩ := hp18
  refine aw_callV dX0_writeBlueFirst_21 (at_row ho) cvX0_198 rfl (kF_X1_add m0 sh rr ww o s13 so sc pl qo pn bm tg px fa hb _ ho (F_X10_redOf a0) (fon_ne hE hF)) rfl (Nat.le_of_ble_eq_true rfl) (by decide) (by decide) (by decide) (by decide) (fun _ _ _ hf => False.elim hf) (fun r21 h21 n21 hp21 => ?_)
  obtain ⟨z21, s21, e21, rfl, rfl, rfl⟩ := hp21
  replace hE := fon_ok e21 hE
  exact aw_vret dX0_writeBlueFirst_24 rfl (Nat.zero_le _) (Nat.zero_le _) (Nat.zero_le _) (Nat.zero_le _) ⟨_, _, hE.symm, rfl, rfl, rfl⟩
def P_X3_numberOf (m0 : Mnt) (sh : Nat → Nat) (rr : Nat → Ras) (ww : Nat → Row) (so : Nat) (sc : Src) (pl : Pal) (qo : Qoi) (pn : Pnm) (bm : Bmp) (tg : Tga) (px : Pcx) (fa : A) (hb : aH) (n : Nat) (res : Out Unit Int32) : Option Value → aH → Nat → Prop := fun r1 h2 n2 => ∃ (a : Int32) (s : Unit), res = fok a s ∧ r1 = some (.int a) ∧ h2 = HC m0 sh rr ww so sc pl qo pn bm tg px fa hb ∧ n = n2
def F_X3_numberOf (a1 : Int32) (pl : Pal) : Out Unit Int32 := fon (F_X3_slotOf a1 pl) (fun z6 s6 => if inb z6 8192 then (fok ((iMax (((pl_slot pl) (Int32.toNatClampNeg z6)) - 1) 0) : Int32) ()) else fno) (fun _ _ => fno)
set_option maxHeartbeats 1000000 in
set_option maxRecDepth 100000 in
theorem kF_X3_numberOf (m0 : Mnt) (sh : Nat → Nat) (rr : Nat → Ras) (ww : Nat → Row) (so : Nat) (sc : Src) (pl : Pal) (qo : Qoi) (pn : Pnm) (bm : Bmp) (tg : Tga) (px : Pcx) (fa : A) (hb : aH) (n : Nat)  (a1 : Int32) (hF : F_X3_numberOf a1 pl ≠ fno) : AM mX3_numberOf 2 [.ref 17, .int a1] (HC m0 sh rr ww so sc pl qo pn bm tg px fa hb) n 0 0 0 0 (P_X3_numberOf m0 sh rr ww so sc pl qo pn bm tg px fa hb n (F_X3_numberOf a1 pl)) (fun _ _ _ => False) := by
  generalize hE : F_X3_numberOf a1 pl = res at hF ⊢
  refine aw_of (by decide +kernel) rfl (Nat.le_of_ble_eq_true rfl) ?_
  unfold F_X3_numberOf at hE
  refine aw_aload_n dX3_numberOf_0 rfl ?_
  refine aw_getf (v := .ref 19) dX3_numberOf_1 flX3_15_2 at_pal rfl ?_
  refine aw_aload_n dX3_numberOf_4 rfl ?_
  refine aw_iload_n dX3_numberOf_5 rfl ?_
  refine aw_callV dX3_numberOf_6 at_pal cvX3_37 rfl (kF_X3_slotOf m0 sh rr ww so sc pl qo pn bm tg px fa hb _  a1 (fon_ne hE hF)) rfl (Nat.le_of_ble_eq_true rfl) (by decide) (by decide) (by decide) (by decide) (fun _ _ _ hf => False.elim hf) (fun r6 h6 n6 hp6 => ?_)
  obtain ⟨z6, s6, e6, rfl, rfl, rfl⟩ := hp6
  replace hE := fon_ok e6 hE
  obtain ⟨g9, hE⟩ := fgd hE hF
  refine aw_iald (f := (pl_slot pl)) dX3_numberOf_9 at_palslot (vp_in_iff.mpr g9) ?_
  refine aw_iconst (v := 1) dX3_numberOf_10 (by decide) ?_
  refine aw_isub dX3_numberOf_11 ?_
  refine aw_iconst (v := 0) dX3_numberOf_12 (by decide) ?_
  refine aw_mmax dX3_numberOf_13 csX3_40.1.1 csX3_40.2 csX3_40.1.2.1 csX3_40.1.2.2.1 (by decide) (Nat.le_of_ble_eq_true rfl) (Nat.zero_le _) (Nat.zero_le _) ?_
  exact aw_iret dX3_numberOf_16 rfl (Nat.zero_le _) (Nat.zero_le _) (Nat.zero_le _) (Nat.zero_le _) ⟨_, _, hE.symm, rfl, rfl, rfl⟩
