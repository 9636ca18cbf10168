def P_X10_spot (m0 : Mnt) (sh : Nat → Nat) (rr : Nat → Ras) (ww : Nat → Row) (so : Nat) (sc : Src) (pl : Pal) (qo : Qoi) (pn : Pnm) (bm : Bmp) (tg : Tga) (px : Pcx) (fa : A) (hb : aH) (n : Nat) (res : Out Unit Int32) : Option Value → aH → Nat → Prop := fun r1 h2 n2 => ∃ (a : Int32) (s : Unit), res = fok a s ∧ r1 = some (.int a) ∧ h2 = HC m0 sh rr ww so sc pl qo pn bm tg px fa hb ∧ n = n2
def X_X10_spot (m0 : Mnt) (sh : Nat → Nat) (rr : Nat → Ras) (ww : Nat → Row) (so : Nat) (sc : Src) (pl : Pal) (qo : Qoi) (pn : Pnm) (bm : Bmp) (tg : Tga) (px : Pcx) (fa : A) (hb : aH) (n : Nat) (res : Out Unit Int32) : String → aH → Nat → Prop := fun E h2 n2 => ∃ s : Unit, res = fex E s ∧ h2 = HC m0 sh rr ww so sc pl qo pn bm tg px fa hb ∧ n = n2
abbrev Q_X10_spot_52 (m0 : Mnt) (sh : Nat → Nat) (rr : Nat → Ras) (ww : Nat → Row) (so : Nat) (sc : Src) (pl : Pal) (qo : Qoi) (pn : Pnm) (bm : Bmp) (tg : Tga) (px : Pcx) (fa : A) (hb : aH) (n : Nat) (k : Out Unit Int32) : Prop := ∀  (res : Out Unit Int32), k  = res → res ≠ fno → AW (fun _ _ => True) mX10_spot (rmD 3 1 6) 0 0 (P_X10_spot m0 sh rr ww so sc pl qo pn bm tg px fa hb n res) (X_X10_spot m0 sh rr ww so sc pl qo pn bm tg px fa hb n res) 0 0 52 [] [] (HC m0 sh rr ww so sc pl qo pn bm tg px fa hb) n
def F_X10_spot_52 (sh : (Nat → Nat)) (rr : (Nat → Ras))   : Out Unit Int32 := fex "java/lang/IndexOutOfBoundsException" ()
set_option maxHeartbeats 1000000 in
set_option maxRecDepth 100000 in
theorem b_X10_spot_52 (m0 : Mnt) (sh : Nat → Nat) (rr : Nat → Ras) (ww : Nat → Row) (so : Nat) (sc : Src) (pl : Pal) (qo : Qoi) (pn : Pnm) (bm : Bmp) (tg : Tga) (px : Pcx) (fa : A) (hb : aH) (n : Nat)   : Q_X10_spot_52 m0 sh rr ww so sc pl qo pn bm tg px fa hb n (F_X10_spot_52 sh rr) := by
  intro res hE hF
  unfold F_X10_spot_52 at hE
  exact aw_throw dX10_spot_52 dX10_spot_55 dX10_spot_56 dX10_spot_58 dX10_spot_61 thX10_195_197_199 rfl (by decide) (Nat.le_of_ble_eq_true rfl) (by decide) (by decide) ⟨_, hE.symm, rfl, rfl⟩
def F_X10_spot (a1 : Int32) (a2 : Int32) (a3 : Int32) (sh : (Nat → Nat)) (rr : (Nat → Ras)) : Out Unit Int32 := fon (F_X10_hasRaster a1 sh rr) (fun z2 s2 => if z2 = 0 then (fex "java/lang/IllegalArgumentException" ()) else (if inb a1 4 then (if isR (sh (Int32.toNatClampNeg a1)) then (if a2 < 0 then (F_X10_spot_52 sh rr ) else (if (x_w (rr (sh (Int32.toNatClampNeg a1)))) ≤ a2 then (F_X10_spot_52 sh rr ) else (if a3 < 0 then (F_X10_spot_52 sh rr ) else (if a3 < (x_g (rr (sh (Int32.toNatClampNeg a1)))) then (fok (((a3 * (x_w (rr (sh (Int32.toNatClampNeg a1))))) + a2) : Int32) ()) else (F_X10_spot_52 sh rr ))))) else fno) else fno)) (fun _ _ => fno)
set_option maxHeartbeats 1000000 in
set_option maxRecDepth 100000 in
theorem kF_X10_spot (m0 : Mnt) (sh : Nat → Nat) (rr : Nat → Ras) (ww : Nat → Row) (so : Nat) (sc : Src) (pl : Pal) (qo : Qoi) (pn : Pnm) (bm : Bmp) (tg : Tga) (px : Pcx) (fa : A) (hb : aH) (n : Nat)  (a1 : Int32) (a2 : Int32) (a3 : Int32) (hF : F_X10_spot a1 a2 a3 sh rr ≠ fno) : AM mX10_spot 3 [.ref 0, .int a1, .int a2, .int a3] (HC m0 sh rr ww so sc pl qo pn bm tg px fa hb) n 1 6 0 0 (P_X10_spot m0 sh rr ww so sc pl qo pn bm tg px fa hb n (F_X10_spot a1 a2 a3 sh rr)) (X_X10_spot m0 sh rr ww so sc pl qo pn bm tg px fa hb n (F_X10_spot a1 a2 a3 sh rr)) := by
  generalize hE : F_X10_spot a1 a2 a3 sh rr = res at hF ⊢
  refine aw_of (by decide +kernel) rfl (Nat.le_of_ble_eq_true rfl) ?_
  unfold F_X10_spot at hE
  refine aw_aload_n dX10_spot_0 rfl ?_
  refine aw_iload_n dX10_spot_1 rfl ?_
  refine aw_callV dX10_spot_2 at_mint cvX10_115 rfl (kF_X10_hasRaster m0 sh rr ww so sc pl qo pn bm tg px fa hb _  a1 (fon_ne hE hF)) rfl (Nat.le_of_ble_eq_true rfl) (by decide) (by decide) (by decide) (by decide) (fun _ _ _ hf => False.elim hf) (fun r2 h2 n2 hp2 => ?_)
  obtain ⟨z2, s2, e2, rfl, rfl, rfl⟩ := hp2
  replace hE := fon_ok e2 hE
  refine aw_if_ne (tgt := 18) dX10_spot_5 (by decide) (fun c5 => ?_) (fun c5 => ?_)
  · replace hE := fif hE c5
    refine aw_aload_n dX10_spot_18 rfl ?_
    refine aw_getf (v := .ref 1) dX10_spot_19 flX10_11_9 at_mint rfl ?_
    refine aw_iload_n dX10_spot_22 rfl ?_
    obtain ⟨g23, hE⟩ := fgd hE hF
    obtain ⟨G23, hE⟩ := fgd hE hF
    refine aw_aald (y := (sh (Int32.toNatClampNeg a1))) dX10_spot_23 at_shelves (vp_in_iff.mpr g23) (if_pos (inbN g23)) ?_
    refine aw_astore (lv2 := [(4, _), (0, _), (1, _), (2, _), (3, _)]) dX10_spot_24 (by decide) rfl ?_
    refine aw_iload_n dX10_spot_26 rfl ?_
    refine aw_if_lt (tgt := 52) dX10_spot_27 (by decide) (fun c27 => ?_) (fun c27 => ?_)
    · replace hE := fit hE c27
      exact aw_lv _ (fun _ h => absurd h List.not_mem_nil) (b_X10_spot_52 m0 sh rr ww so sc pl qo pn bm tg px fa hb n    _ hE hF)
    · replace hE := fif hE c27
      refine aw_iload_n dX10_spot_30 rfl ?_
      refine aw_aload dX10_spot_31 rfl ?_
      refine aw_getf (v := .int (x_w (rr (sh (Int32.toNatClampNeg a1))))) dX10_spot_33 flX10_135_6 (at_rasT G23) rfl ?_
      refine aw_icmp_ge (tgt := 52) dX10_spot_36 (by decide) (fun c36 => ?_) (fun c36 => ?_)
      · replace hE := fit hE c36
        exact aw_lv _ (fun _ h => absurd h List.not_mem_nil) (b_X10_spot_52 m0 sh rr ww so sc pl qo pn bm tg px fa hb n    _ hE hF)
      · replace hE := fif hE c36
        refine aw_iload_n dX10_spot_39 rfl ?_
        refine aw_if_lt (tgt := 52) dX10_spot_40 (by decide) (fun c40 => ?_) (fun c40 => ?_)
        · replace hE := fit hE c40
          exact aw_lv _ (fun _ h => absurd h List.not_mem_nil) (b_X10_spot_52 m0 sh rr ww so sc pl qo pn bm tg px fa hb n    _ hE hF)
        · replace hE := fif hE c40
          refine aw_iload_n dX10_spot_43 rfl ?_
          refine aw_aload dX10_spot_44 rfl ?_
          refine aw_getf (v := .int (x_g (rr (sh (Int32.toNatClampNeg a1))))) dX10_spot_46 flX10_138_6 (at_rasT G23) rfl ?_
          refine aw_icmp_lt (tgt := 62) dX10_spot_49 (by decide) (fun c49 => ?_) (fun c49 => ?_)
          · replace hE := fit hE c49
            refine aw_iload_n dX10_spot_62 rfl ?_
            refine aw_aload dX10_spot_63 rfl ?_
            refine aw_getf (v := .int (x_w (rr (sh (Int32.toNatClampNeg a1))))) dX10_spot_65 flX10_135_6 (at_rasT G23) rfl ?_
            refine aw_imul dX10_spot_68 ?_
            refine aw_iload_n dX10_spot_69 rfl ?_
            refine aw_iadd dX10_spot_70 ?_
            exact aw_iret dX10_spot_71 rfl (Nat.zero_le _) (Nat.zero_le _) (Nat.zero_le _) (Nat.zero_le _) ⟨_, _, hE.symm, rfl, rfl, rfl⟩
          · replace hE := fif hE c49
            exact aw_lv _ (fun _ h => absurd h List.not_mem_nil) (b_X10_spot_52 m0 sh rr ww so sc pl qo pn bm tg px fa hb n    _ hE hF)
  · replace hE := fit hE c5
    exact aw_throw dX10_spot_8 dX10_spot_11 dX10_spot_12 dX10_spot_14 dX10_spot_17 thX10_98_193_102 rfl (by decide) (Nat.le_of_ble_eq_true rfl) (by decide) (by decide) ⟨_, hE.symm, rfl, rfl⟩
def P_X10_make (m0 : Mnt) (sh : Nat → Nat) (ww : Nat → Row) (so : Nat) (sc : Src) (pl : Pal) (qo : Qoi) (pn : Pnm) (bm : Bmp) (tg : Tga) (px : Pcx) (fa : A) (hb : aH) (n : Nat) (res : Out (Nat → Ras) Int32) : Option Value → aH → Nat → Prop := fun r1 h2 n2 => ∃ (a : Int32) (s : (Nat → Ras)), res = fok a s ∧ r1 = some (.int a) ∧ h2 = HC m0 sh s ww so sc pl qo pn bm tg px fa hb ∧ n = n2
abbrev Q_X10_make_27 (m0 : Mnt) (sh : Nat → Nat) (ww : Nat → Row) (so : Nat) (sc : Src) (pl : Pal) (qo : Qoi) (pn : Pnm) (bm : Bmp) (tg : Tga) (px : Pcx) (fa : A) (hb : aH) (n : Nat) (k : (Nat → Ras) → Out (Nat → Ras) Int32) : Prop := ∀ (rr : (Nat → Ras)) (res : Out (Nat → Ras) Int32), k rr = res → res ≠ fno → AW (fun _ _ => True) mX10_make (rmD 3 0 0) 0 0 (P_X10_make m0 sh ww so sc pl qo pn bm tg px fa hb n res) (fun _ _ _ => False) 0 0 27 [] [] (HC m0 sh rr ww so sc pl qo pn bm tg px fa hb) n
def F_X10_make_27 (sh : (Nat → Nat))  (rr : (Nat → Ras)) : Out (Nat → Ras) Int32 := fok (0 : Int32) rr
set_option maxHeartbeats 1000000 in
set_option maxRecDepth 100000 in
theorem b_X10_make_27 (m0 : Mnt) (sh : Nat → Nat) (ww : Nat → Row) (so : Nat) (sc : Src) (pl : Pal) (qo : Qoi) (pn : Pnm) (bm : Bmp) (tg : Tga) (px : Pcx) (fa : A) (hb : aH) (n : Nat)   : Q_X10_make_27 m0 sh ww so sc pl qo pn bm tg px fa hb n (F_X10_make_27 sh) := by
  intro rr res hE hF
  unfold F_X10_make_27 at hE
  refine aw_iconst (v := 0) dX10_make_27 (by decide) ?_
  exact aw_zret dX10_make_28 rfl (narB (by decide)) (Nat.zero_le _) (Nat.zero_le _) (Nat.zero_le _) (Nat.zero_le _) ⟨_, _, hE.symm, rfl, rfl, rfl⟩
def F_X10_make (a1 : Int32) (a2 : Int32) (a3 : Int32) (a4 : Int32) (sh : (Nat → Nat)) (rr : (Nat → Ras)) : Out (Nat → Ras) Int32 := if (F_X10_isShelf a1) = 0 then (F_X10_make_27 sh rr) else (if a2 < 1 then (F_X10_make_27 sh rr) else (if a3 < 1 then (F_X10_make_27 sh rr) else (if (F_X10_isTooLarge ((a2).toInt64) ((a3).toInt64)) = 0 then (if inb a1 4 then (if isR (sh (Int32.toNatClampNeg a1)) then (fon (F_X7_fill a4 ((va_up (va_up rr (sh (Int32.toNatClampNeg a1)) (a2, (x_g (rr (sh (Int32.toNatClampNeg a1)))), (x_p (rr (sh (Int32.toNatClampNeg a1)))))) (sh (Int32.toNatClampNeg a1)) ((x_w ((va_up rr (sh (Int32.toNatClampNeg a1)) (a2, (x_g (rr (sh (Int32.toNatClampNeg a1)))), (x_p (rr (sh (Int32.toNatClampNeg a1)))))) (sh (Int32.toNatClampNeg a1)))), a3, (x_p ((va_up rr (sh (Int32.toNatClampNeg a1)) (a2, (x_g (rr (sh (Int32.toNatClampNeg a1)))), (x_p (rr (sh (Int32.toNatClampNeg a1)))))) (sh (Int32.toNatClampNeg a1)))))) (sh (Int32.toNatClampNeg a1)))) (fun z53 s53 => fok (1 : Int32) (va_up (va_up (va_up rr (sh (Int32.toNatClampNeg a1)) (a2, (x_g (rr (sh (Int32.toNatClampNeg a1)))), (x_p (rr (sh (Int32.toNatClampNeg a1)))))) (sh (Int32.toNatClampNeg a1)) ((x_w ((va_up rr (sh (Int32.toNatClampNeg a1)) (a2, (x_g (rr (sh (Int32.toNatClampNeg a1)))), (x_p (rr (sh (Int32.toNatClampNeg a1)))))) (sh (Int32.toNatClampNeg a1)))), a3, (x_p ((va_up rr (sh (Int32.toNatClampNeg a1)) (a2, (x_g (rr (sh (Int32.toNatClampNeg a1)))), (x_p (rr (sh (Int32.toNatClampNeg a1)))))) (sh (Int32.toNatClampNeg a1)))))) (sh (Int32.toNatClampNeg a1)) s53)) (fun _ _ => fno)) else fno) else fno) else (F_X10_make_27 sh rr))))
set_option maxHeartbeats 1000000 in
set_option maxRecDepth 100000 in
theorem kF_X10_make (m0 : Mnt) (sh : Nat → Nat) (rr : Nat → Ras) (ww : Nat → Row) (so : Nat) (sc : Src) (pl : Pal) (qo : Qoi) (pn : Pnm) (bm : Bmp) (tg : Tga) (px : Pcx) (fa : A) (hb : aH) (n : Nat)  (a1 : Int32) (a2 : Int32) (a3 : Int32) (a4 : Int32) (hF : F_X10_make a1 a2 a3 a4 sh rr ≠ fno) : AM mX10_make 3 [.ref 0, .int a1, .int a2, .int a3, .int a4] (HC m0 sh rr ww so sc pl qo pn bm tg px fa hb) n 0 0 0 0 (P_X10_make m0 sh ww so sc pl qo pn bm tg px fa hb n (F_X10_make a1 a2 a3 a4 sh rr)) (fun _ _ _ => False) := by
  generalize hE : F_X10_make a1 a2 a3 a4 sh rr = res at hF ⊢
  refine aw_of (by decide +kernel) rfl (Nat.le_of_ble_eq_true rfl) ?_
  unfold F_X10_make at hE
  refine aw_iload_n dX10_make_0 rfl ?_
  refine aw_callS dX10_make_1  csX10_94 rfl (kF_X10_isShelf _ _ a1) rfl (Nat.le_of_ble_eq_true rfl) (by decide) (by decide) (by decide) (by decide) (fun _ _ _ hf => False.elim hf) (fun r1 h1 n1 hp1 => ?_)
  obtain ⟨rfl, rfl, rfl⟩ := hp1
  refine aw_if_eq (tgt := 27) dX10_make_4 (by decide) (fun c4 => ?_) (fun c4 => ?_)
  · replace hE := fit hE c4
    exact aw_lv _ (fun _ h => absurd h List.not_mem_nil) (b_X10_make_27 m0 sh ww so sc pl qo pn bm tg px fa hb n   rr _ hE hF)
  · replace hE := fif hE c4
    refine aw_iload_n dX10_make_7 rfl ?_
    refine aw_iconst (v := 1) dX10_make_8 (by decide) ?_
    refine aw_icmp_lt (tgt := 27) dX10_make_9 (by decide) (fun c9 => ?_) (fun c9 => ?_)
    · replace hE := fit hE c9
      exact aw_lv _ (fun _ h => absurd h List.not_mem_nil) (b_X10_make_27 m0 sh ww so sc pl qo pn bm tg px fa hb n   rr _ hE hF)
    · replace hE := fif hE c9
      refine aw_iload_n dX10_make_12 rfl ?_
      refine aw_iconst (v := 1) dX10_make_13 (by decide) ?_
      refine aw_icmp_lt (tgt := 27) dX10_make_14 (by decide) (fun c14 => ?_) (fun c14 => ?_)
      · replace hE := fit hE c14
        exact aw_lv _ (fun _ h => absurd h List.not_mem_nil) (b_X10_make_27 m0 sh ww so sc pl qo pn bm tg px fa hb n   rr _ hE hF)
      · replace hE := fif hE c14
        refine aw_iload_n dX10_make_17 rfl ?_
        refine aw_i2l dX10_make_18 ?_
        refine aw_iload_n dX10_make_19 rfl ?_
        refine aw_i2l dX10_make_20 ?_
        refine aw_callS dX10_make_21  csX10_131 rfl (kF_X10_isTooLarge _ _ ((a2).toInt64) ((a3).toInt64)) rfl (Nat.le_of_ble_eq_true rfl) (by decide) (by decide) (by decide) (by decide) (fun _ _ _ hf => False.elim hf) (fun r21 h21 n21 hp21 => ?_)
        obtain ⟨rfl, rfl, rfl⟩ := hp21
        refine aw_if_eq (tgt := 29) dX10_make_24 (by decide) (fun c24 => ?_) (fun c24 => ?_)
        · replace hE := fit hE c24
          refine aw_aload_n dX10_make_29 rfl ?_
          refine aw_getf (v := .ref 1) dX10_make_30 flX10_11_9 at_mint rfl ?_
          refine aw_iload_n dX10_make_33 rfl ?_
          obtain ⟨g34, hE⟩ := fgd hE hF
          obtain ⟨G34, hE⟩ := fgd hE hF
          refine aw_aald (y := (sh (Int32.toNatClampNeg a1))) dX10_make_34 at_shelves (vp_in_iff.mpr g34) (if_pos (inbN g34)) ?_
          refine aw_astore (lv2 := [(5, _), (0, _), (1, _), (2, _), (3, _), (4, _)]) dX10_make_35 (by decide) rfl ?_
          refine aw_aload dX10_make_37 rfl ?_
          refine aw_iload_n dX10_make_39 rfl ?_
          refine aw_putf dX10_make_40 ptX10_135_6 (at_rasT G34) (Nat.le_of_ble_eq_true rfl) ⟨rfl, rfl⟩ ?_
          refine aw_eqh (h2 := HC m0 sh (va_up rr (sh (Int32.toNatClampNeg a1)) (a2, (x_g (rr (sh (Int32.toNatClampNeg a1)))), (x_p (rr (sh (Int32.toNatClampNeg a1)))))) ww so sc pl qo pn bm tg px fa hb) (up_rasT G34) ?_
          refine aw_aload dX10_make_43 rfl ?_
          refine aw_iload_n dX10_make_45 rfl ?_
          refine aw_putf dX10_make_46 ptX10_138_6 (at_rasT G34) (Nat.le_of_ble_eq_true rfl) ⟨rfl, rfl⟩ ?_
          refine aw_eqh (h2 := HC m0 sh (va_up (va_up rr (sh (Int32.toNatClampNeg a1)) (a2, (x_g (rr (sh (Int32.toNatClampNeg a1)))), (x_p (rr (sh (Int32.toNatClampNeg a1)))))) (sh (Int32.toNatClampNeg a1)) ((x_w ((va_up rr (sh (Int32.toNatClampNeg a1)) (a2, (x_g (rr (sh (Int32.toNatClampNeg a1)))), (x_p (rr (sh (Int32.toNatClampNeg a1)))))) (sh (Int32.toNatClampNeg a1)))), a3, (x_p ((va_up rr (sh (Int32.toNatClampNeg a1)) (a2, (x_g (rr (sh (Int32.toNatClampNeg a1)))), (x_p (rr (sh (Int32.toNatClampNeg a1)))))) (sh (Int32.toNatClampNeg a1)))))) ww so sc pl qo pn bm tg px fa hb) (up_rasT G34) ?_
          refine aw_aload dX10_make_49 rfl ?_
          refine aw_iload dX10_make_51 rfl ?_
          refine aw_eqh (h2 := HC m0 sh (va_up (va_up (va_up rr (sh (Int32.toNatClampNeg a1)) (a2, (x_g (rr (sh (Int32.toNatClampNeg a1)))), (x_p (rr (sh (Int32.toNatClampNeg a1)))))) (sh (Int32.toNatClampNeg a1)) ((x_w ((va_up rr (sh (Int32.toNatClampNeg a1)) (a2, (x_g (rr (sh (Int32.toNatClampNeg a1)))), (x_p (rr (sh (Int32.toNatClampNeg a1)))))) (sh (Int32.toNatClampNeg a1)))), a3, (x_p ((va_up rr (sh (Int32.toNatClampNeg a1)) (a2, (x_g (rr (sh (Int32.toNatClampNeg a1)))), (x_p (rr (sh (Int32.toNatClampNeg a1)))))) (sh (Int32.toNatClampNeg a1)))))) (sh (Int32.toNatClampNeg a1)) ((va_up (va_up rr (sh (Int32.toNatClampNeg a1)) (a2, (x_g (rr (sh (Int32.toNatClampNeg a1)))), (x_p (rr (sh (Int32.toNatClampNeg a1)))))) (sh (Int32.toNatClampNeg a1)) ((x_w ((va_up rr (sh (Int32.toNatClampNeg a1)) (a2, (x_g (rr (sh (Int32.toNatClampNeg a1)))), (x_p (rr (sh (Int32.toNatClampNeg a1)))))) (sh (Int32.toNatClampNeg a1)))), a3, (x_p ((va_up rr (sh (Int32.toNatClampNeg a1)) (a2, (x_g (rr (sh (Int32.toNatClampNeg a1)))), (x_p (rr (sh (Int32.toNatClampNeg a1)))))) (sh (Int32.toNatClampNeg a1)))))) (sh (Int32.toNatClampNeg a1)))) ww so sc pl qo pn bm tg px fa hb) (by rw [vus (va_up (va_up rr (sh (Int32.toNatClampNeg a1)) (a2, (x_g (rr (sh (Int32.toNatClampNeg a1)))), (x_p (rr (sh (Int32.toNatClampNeg a1)))))) (sh (Int32.toNatClampNeg a1)) ((x_w ((va_up rr (sh (Int32.toNatClampNeg a1)) (a2, (x_g (rr (sh (Int32.toNatClampNeg a1)))), (x_p (rr (sh (Int32.toNatClampNeg a1)))))) (sh (Int32.toNatClampNeg a1)))), a3, (x_p ((va_up rr (sh (Int32.toNatClampNeg a1)) (a2, (x_g (rr (sh (Int32.toNatClampNeg a1)))), (x_p (rr (sh (Int32.toNatClampNeg a1)))))) (sh (Int32.toNatClampNeg a1)))))) (sh (Int32.toNatClampNeg a1))]) ?_
          refine aw_callV dX10_make_53 (at_ras G34) cvX10_141 rfl (kF_X7_fill m0 sh (va_up (va_up rr (sh (Int32.toNatClampNeg a1)) (a2, (x_g (rr (sh (Int32.toNatClampNeg a1)))), (x_p (rr (sh (Int32.toNatClampNeg a1)))))) (sh (Int32.toNatClampNeg a1)) ((x_w ((va_up rr (sh (Int32.toNatClampNeg a1)) (a2, (x_g (rr (sh (Int32.toNatClampNeg a1)))), (x_p (rr (sh (Int32.toNatClampNeg a1)))))) (sh (Int32.toNatClampNeg a1)))), a3, (x_p ((va_up rr (sh (Int32.toNatClampNeg a1)) (a2, (x_g (rr (sh (Int32.toNatClampNeg a1)))), (x_p (rr (sh (Int32.toNatClampNeg a1)))))) (sh (Int32.toNatClampNeg a1)))))) (sh (Int32.toNatClampNeg a1)) ((va_up (va_up rr (sh (Int32.toNatClampNeg a1)) (a2, (x_g (rr (sh (Int32.toNatClampNeg a1)))), (x_p (rr (sh (Int32.toNatClampNeg a1)))))) (sh (Int32.toNatClampNeg a1)) ((x_w ((va_up rr (sh (Int32.toNatClampNeg a1)) (a2, (x_g (rr (sh (Int32.toNatClampNeg a1)))), (x_p (rr (sh (Int32.toNatClampNeg a1)))))) (sh (Int32.toNatClampNeg a1)))), a3, (x_p ((va_up rr (sh (Int32.toNatClampNeg a1)) (a2, (x_g (rr (sh (Int32.toNatClampNeg a1)))), (x_p (rr (sh (Int32.toNatClampNeg a1)))))) (sh (Int32.toNatClampNeg a1)))))) (sh (Int32.toNatClampNeg a1))) ww so sc pl qo pn bm tg px fa hb _ G34 a4 (fon_ne hE hF)) rfl (Nat.le_of_ble_eq_true rfl) (by decide) (by decide) (by decide) (by decide) (fun _ _ _ hf => False.elim hf) (fun r53 h53 n53 hp53 => ?_)
          obtain ⟨z53, s53, e53, rfl, rfl, rfl⟩ := hp53
          replace hE := fon_ok e53 hE
          refine aw_iconst (v := 1) dX10_make_56 (by decide) ?_
          exact aw_zret dX10_make_57 rfl (narB (by decide)) (Nat.zero_le _) (Nat.zero_le _) (Nat.zero_le _) (Nat.zero_le _) ⟨_, _, hE.symm, rfl, rfl, rfl⟩
        · replace hE := fif hE c24
          exact aw_lv _ (fun _ h => absurd h List.not_mem_nil) (b_X10_make_27 m0 sh ww so sc pl qo pn bm tg px fa hb n   rr _ hE hF)
def P_X10_dot (m0 : Mnt) (sh : Nat → Nat) (ww : Nat → Row) (so : Nat) (sc : Src) (pl : Pal) (qo : Qoi) (pn : Pnm) (bm : Bmp) (tg : Tga) (px : Pcx) (fa : A) (hb : aH) (n : Nat) (res : Out (Nat → Ras) Int32) : Option Value → aH → Nat → Prop := fun r1 h2 n2 => ∃ (a : Int32) (s : (Nat → Ras)), res = fok a s ∧ r1 = some (.int a) ∧ h2 = HC m0 sh s ww so sc pl qo pn bm tg px fa hb ∧ n = n2
def X_X10_dot (m0 : Mnt) (sh : Nat → Nat) (ww : Nat → Row) (so : Nat) (sc : Src) (pl : Pal) (qo : Qoi) (pn : Pnm) (bm : Bmp) (tg : Tga) (px : Pcx) (fa : A) (hb : aH) (n : Nat) (res : Out (Nat → Ras) Int32) : String → aH → Nat → Prop := fun E h2 n2 => ∃ s : (Nat → Ras), res = fex E s ∧ h2 = HC m0 sh s ww so sc pl qo pn bm tg px fa hb ∧ n = n2
def F_X10_dot (a1 : Int32) (a2 : Int32) (a3 : Int32) (a4 : Int32) (sh : (Nat → Nat)) (rr : (Nat → Ras)) : Out (Nat → Ras) Int32 := fon (F_X10_spot a1 a2 a3 sh rr) (fun z4 s4 => if inb a1 4 then (if isR (sh (Int32.toNatClampNeg a1)) then (fon (F_X7_get z4 (rr (sh (Int32.toNatClampNeg a1)))) (fun z21 s21 => fon (F_X7_set z4 a4 (rr (sh (Int32.toNatClampNeg a1)))) (fun z32 s32 => fok (z21 : Int32) (va_up rr (sh (Int32.toNatClampNeg a1)) s32)) (fun _ _ => fno)) (fun _ _ => fno)) else fno) else fno) (fun E s4 => fex E rr)
set_option maxHeartbeats 1000000 in
set_option maxRecDepth 100000 in
theorem kF_X10_dot (m0 : Mnt) (sh : Nat → Nat) (rr : Nat → Ras) (ww : Nat → Row) (so : Nat) (sc : Src) (pl : Pal) (qo : Qoi) (pn : Pnm) (bm : Bmp) (tg : Tga) (px : Pcx) (fa : A) (hb : aH) (n : Nat)  (a1 : Int32) (a2 : Int32) (a3 : Int32) (a4 : Int32) (hF : F_X10_dot a1 a2 a3 a4 sh rr ≠ fno) : AM mX10_dot 4 [.ref 0, .int a1, .int a2, .int a3, .int a4] (HC m0 sh rr ww so sc pl qo pn bm tg px fa hb) n 1 6 0 0 (P_X10_dot m0 sh ww so sc pl qo pn bm tg px fa hb n (F_X10_dot a1 a2 a3 a4 sh rr)) (X_X10_dot m0 sh ww so sc pl qo pn bm tg px fa hb n (F_X10_dot a1 a2 a3 a4 sh rr)) := by
  generalize hE : F_X10_dot a1 a2 a3 a4 sh rr = res at hF ⊢
  refine aw_of (by decide +kernel) rfl (Nat.le_of_ble_eq_true rfl) ?_
  unfold F_X10_dot at hE
  refine aw_aload_n dX10_dot_0 rfl ?_
  refine aw_iload_n dX10_dot_1 rfl ?_
  refine aw_iload_n dX10_dot_2 rfl ?_
  refine aw_iload_n dX10_dot_3 rfl ?_
  refine aw_callV dX10_dot_4 at_mint cvX10_143 rfl (kF_X10_spot m0 sh rr ww so sc pl qo pn bm tg px fa hb _  a1 a2 a3 (fon_ne hE hF)) rfl (Nat.le_of_ble_eq_true rfl) (by decide) (by decide) (by decide) (by decide) (fun E h2 n2 hx => aw_out rfl (by decide) (by decide) (by obtain ⟨s4, e4, rfl, rfl⟩ := hx; exact ⟨_, (fon_ex e4 hE).symm, rfl, rfl⟩)) (fun r4 h4 n4 hp4 => ?_)
  obtain ⟨z4, s4, e4, rfl, rfl, rfl⟩ := hp4
  replace hE := fon_ok e4 hE
  refine aw_istore (lv2 := [(5, _), (0, _), (1, _), (2, _), (3, _), (4, _)]) dX10_dot_7 (by decide) rfl ?_
  refine aw_aload_n dX10_dot_9 rfl ?_
  refine aw_getf (v := .ref 1) dX10_dot_10 flX10_11_9 at_mint rfl ?_
  refine aw_iload_n dX10_dot_13 rfl ?_
  obtain ⟨g14, hE⟩ := fgd hE hF
  obtain ⟨G14, hE⟩ := fgd hE hF
  refine aw_aald (y := (sh (Int32.toNatClampNeg a1))) dX10_dot_14 at_shelves (vp_in_iff.mpr g14) (if_pos (inbN g14)) ?_
  refine aw_astore (lv2 := [(6, _), (5, _), (0, _), (1, _), (2, _), (3, _), (4, _)]) dX10_dot_15 (by decide) rfl ?_
  refine aw_aload dX10_dot_17 rfl ?_
  refine aw_iload dX10_dot_19 rfl ?_
  refine aw_eqh (h2 := HC m0 sh (va_up rr (sh (Int32.toNatClampNeg a1)) (rr (sh (Int32.toNatClampNeg a1)))) ww so sc pl qo pn bm tg px fa hb) (by rw [vus rr (sh (Int32.toNatClampNeg a1))]) ?_
  refine aw_callV dX10_dot_21 (at_ras G14) cvX10_147 rfl (kF_X7_get m0 sh rr (sh (Int32.toNatClampNeg a1)) (rr (sh (Int32.toNatClampNeg a1))) ww so sc pl qo pn bm tg px fa hb _ G14 z4 (fon_ne hE hF)) rfl (Nat.le_of_ble_eq_true rfl) (by decide) (by decide) (by decide) (by decide) (fun _ _ _ hf => False.elim hf) (fun r21 h21 n21 hp21 => ?_)
  obtain ⟨z21, s21, e21, rfl, rfl, rfl⟩ := hp21
  replace hE := fon_ok e21 hE
  refine aw_eqh (h2 := HC m0 sh rr ww so sc pl qo pn bm tg px fa hb) (by rw [vus rr (sh (Int32.toNatClampNeg a1))]) ?_
  refine aw_istore (lv2 := [(7, _), (6, _), (5, _), (0, _), (1, _), (2, _), (3, _), (4, _)]) dX10_dot_24 (by decide) rfl ?_
  refine aw_aload dX10_dot_26 rfl ?_
  refine aw_iload dX10_dot_28 rfl ?_
  refine aw_iload dX10_dot_30 rfl ?_
  refine aw_eqh (h2 := HC m0 sh (va_up rr (sh (Int32.toNatClampNeg a1)) (rr (sh (Int32.toNatClampNeg a1)))) ww so sc pl qo pn bm tg px fa hb) (by rw [vus rr (sh (Int32.toNatClampNeg a1))]) ?_
  refine aw_callV dX10_dot_32 (at_ras G14) cvX10_150 rfl (kF_X7_set m0 sh rr (sh (Int32.toNatClampNeg a1)) (rr (sh (Int32.toNatClampNeg a1))) ww so sc pl qo pn bm tg px fa hb _ G14 z4 a4 (fon_ne hE hF)) rfl (Nat.le_of_ble_eq_true rfl) (by decide) (by decide) (by decide) (by decide) (fun _ _ _ hf => False.elim hf) (fun r32 h32 n32 hp32 => ?_)
  obtain ⟨z32, s32, e32, rfl, rfl, rfl⟩ := hp32
  replace hE := fon_ok e32 hE
  refine aw_iload dX10_dot_35 rfl ?_
  exact aw_iret dX10_dot_37 rfl (Nat.zero_le _) (Nat.zero_le _) (Nat.zero_le _) (Nat.zero_le _) ⟨_, _, hE.symm, rfl, rfl, rfl⟩
def P_X10_sweep (m0 : Mnt) (sh : Nat → Nat) (ww : Nat → Row) (so : Nat) (sc : Src) (pl : Pal) (qo : Qoi) (pn : Pnm) (bm : Bmp) (tg : Tga) (px : Pcx) (fa : A) (hb : aH) (n : Nat) (res : Out (Nat → Ras) Int32) : Option Value → aH → Nat → Prop := fun r1 h2 n2 => ∃ (a : Int32) (s : (Nat → Ras)), res = fok a s ∧ r1 = some (.int a) ∧ h2 = HC m0 sh s ww so sc pl qo pn bm tg px fa hb ∧ n = n2
def X_X10_sweep (m0 : Mnt) (sh : Nat → Nat) (ww : Nat → Row) (so : Nat) (sc : Src) (pl : Pal) (qo : Qoi) (pn : Pnm) (bm : Bmp) (tg : Tga) (px : Pcx) (fa : A) (hb : aH) (n : Nat) (res : Out (Nat → Ras) Int32) : String → aH → Nat → Prop := fun E h2 n2 => ∃ s : (Nat → Ras), res = fex E s ∧ h2 = HC m0 sh s ww so sc pl qo pn bm tg px fa hb ∧ n = n2
abbrev Q_X10_sweep_39 (m0 : Mnt) (sh : Nat → Nat) (ww : Nat → Row) (so : Nat) (sc : Src) (pl : Pal) (qo : Qoi) (pn : Pnm) (bm : Bmp) (tg : Tga) (px : Pcx) (fa : A) (hb : aH) (n : Nat) (k : Int32 → Int32 → Int32 → Nat → Int32 → Int32 → (Nat → Ras) → Out (Nat → Ras) Int32) : Prop := ∀ (v5 : Int32) (v6 : Int32) (v7 : Int32) (u8 : Nat) (v9 : Int32) (v10 : Int32) (rr : (Nat → Ras)) (res : Out (Nat → Ras) Int32), k v5 v6 v7 u8 v9 v10 rr = res → res ≠ fno → AW (fun _ _ => True) mX10_sweep (rmD 4 1 6) 0 0 (P_X10_sweep m0 sh ww so sc pl qo pn bm tg px fa hb n res) (X_X10_sweep m0 sh ww so sc pl qo pn bm tg px fa hb n res) 0 0 39 [(5, .int v5), (6, .int v6), (7, .int v7), (8, .ref u8), (9, .int v9), (10, .int v10)] [] (HC m0 sh rr ww so sc pl qo pn bm tg px fa hb) n
def F_X10_sweep_39 (sh : (Nat → Nat)) (k39 : Int32 → Int32 → Int32 → Nat → Int32 → Int32 → (Nat → Ras) → Out (Nat → Ras) Int32) (v5 : Int32) (v6 : Int32) (v7 : Int32) (u8 : Nat) (v9 : Int32) (v10 : Int32) (rr : (Nat → Ras)) : Out (Nat → Ras) Int32 := if isR u8 then (if v9 ≤ v10 then (fok (v9 : Int32) rr) else (fon (F_X7_set (v7 + v10) (v5 + (v10 * v6)) (rr u8)) (fun z61 s61 => k39 v5 v6 v7 u8 v9 (v10 + 1) (va_up rr u8 s61)) (fun _ _ => fno))) else fno
set_option maxHeartbeats 1000000 in
set_option maxRecDepth 100000 in
theorem b_X10_sweep_39 (m0 : Mnt) (sh : Nat → Nat) (ww : Nat → Row) (so : Nat) (sc : Src) (pl : Pal) (qo : Qoi) (pn : Pnm) (bm : Bmp) (tg : Tga) (px : Pcx) (fa : A) (hb : aH) (n : Nat)  (k39 : Int32 → Int32 → Int32 → Nat → Int32 → Int32 → (Nat → Ras) → Out (Nat → Ras) Int32) (hk39 : Q_X10_sweep_39 m0 sh ww so sc pl qo pn bm tg px fa hb n k39) : Q_X10_sweep_39 m0 sh ww so sc pl qo pn bm tg px fa hb n (F_X10_sweep_39 sh k39) := by
  intro v5 v6 v7 u8 v9 v10 rr res hE hF
  unfold F_X10_sweep_39 at hE
  obtain ⟨gu8, hE⟩ := fgd hE hF
  refine aw_iload dX10_sweep_39 rfl ?_
  refine aw_iload dX10_sweep_41 rfl ?_
  refine aw_icmp_ge (tgt := 70) dX10_sweep_43 (by decide) (fun c43 => ?_) (fun c43 => ?_)
  · replace hE := fit hE c43
    refine aw_iload dX10_sweep_70 rfl ?_
    exact aw_iret dX10_sweep_72 rfl (Nat.zero_le _) (Nat.zero_le _) (Nat.zero_le _) (Nat.zero_le _) ⟨_, _, hE.symm, rfl, rfl, rfl⟩
  · replace hE := fif hE c43
    refine aw_aload dX10_sweep_46 rfl ?_
    refine aw_iload dX10_sweep_48 rfl ?_
    refine aw_iload dX10_sweep_50 rfl ?_
    refine aw_iadd dX10_sweep_52 ?_
    refine aw_iload dX10_sweep_53 rfl ?_
    refine aw_iload dX10_sweep_55 rfl ?_
    refine aw_iload dX10_sweep_57 rfl ?_
    refine aw_imul dX10_sweep_59 ?_
    refine aw_iadd dX10_sweep_60 ?_
    refine aw_eqh (h2 := HC m0 sh (va_up rr u8 (rr u8)) ww so sc pl qo pn bm tg px fa hb) (by rw [vus rr u8]) ?_
    refine aw_callV dX10_sweep_61 (at_ras gu8) cvX10_150 rfl (kF_X7_set m0 sh rr u8 (rr u8) ww so sc pl qo pn bm tg px fa hb _ gu8 (v7 + v10) (v5 + (v10 * v6)) (fon_ne hE hF)) rfl (Nat.le_of_ble_eq_true rfl) (by decide) (by decide) (by decide) (by decide) (fun _ _ _ hf => False.elim hf) (fun r61 h61 n61 hp61 => ?_)
    obtain ⟨z61, s61, e61, rfl, rfl, rfl⟩ := hp61
    replace hE := fon_ok e61 hE
    refine aw_iinc (v := (v10 + 1)) (lv2 := [(10, _), (5, _), (6, _), (7, _), (8, _), (9, _)]) dX10_sweep_64 rfl (incE (by decide)) (by decide) rfl ?_
    refine aw_goto (tgt := 39) dX10_sweep_67 (by decide) ?_
    exact aw_lv _ (List.forall_mem_cons.mpr ⟨rfl, (List.forall_mem_cons.mpr ⟨rfl, (List.forall_mem_cons.mpr ⟨rfl, (List.forall_mem_cons.mpr ⟨rfl, (List.forall_mem_cons.mpr ⟨rfl, (List.forall_mem_cons.mpr ⟨rfl, fun _ h => absurd h List.not_mem_nil⟩)⟩)⟩)⟩)⟩)⟩) (hk39 v5 v6 v7 u8 v9 (v10 + 1) (va_up rr u8 s61) _ hE hF)
def F_X10_sweep (a1 : Int32) (a2 : Int32) (a3 : Int32) (a4 : Int32) (a5 : Int32) (a6 : Int32) (sh : (Nat → Nat)) (rr : (Nat → Ras)) : Out (Nat → Ras) Int32 := fon (F_X10_spot a1 a2 a3 sh rr) (fun z4 s4 => if inb a1 4 then (if isR (sh (Int32.toNatClampNeg a1)) then (fon (F_X7_count (rr (sh (Int32.toNatClampNeg a1)))) (fun z25 s25 => lp (fun _ _ _ _ _ _ _ => fno) (F_X10_sweep_39 sh) FU a5 a6 z4 (sh (Int32.toNatClampNeg a1)) (iMin (iMax a4 0) (z25 - z4)) (0 : Int32) rr) (fun _ _ => fno)) else fno) else fno) (fun E s4 => fex E rr)
set_option maxHeartbeats 1000000 in
set_option maxRecDepth 100000 in
theorem kF_X10_sweep (m0 : Mnt) (sh : Nat → Nat) (rr : Nat → Ras) (ww : Nat → Row) (so : Nat) (sc : Src) (pl : Pal) (qo : Qoi) (pn : Pnm) (bm : Bmp) (tg : Tga) (px : Pcx) (fa : A) (hb : aH) (n : Nat)  (a1 : Int32) (a2 : Int32) (a3 : Int32) (a4 : Int32) (a5 : Int32) (a6 : Int32) (hF : F_X10_sweep a1 a2 a3 a4 a5 a6 sh rr ≠ fno) : AM mX10_sweep 4 [.ref 0, .int a1, .int a2, .int a3, .int a4, .int a5, .int a6] (HC m0 sh rr ww so sc pl qo pn bm tg px fa hb) n 1 6 0 0 (P_X10_sweep m0 sh ww so sc pl qo pn bm tg px fa hb n (F_X10_sweep a1 a2 a3 a4 a5 a6 sh rr)) (X_X10_sweep m0 sh ww so sc pl qo pn bm tg px fa hb n (F_X10_sweep a1 a2 a3 a4 a5 a6 sh rr)) := by
  generalize hE : F_X10_sweep a1 a2 a3 a4 a5 a6 sh rr = res at hF ⊢
  refine aw_of (by decide +kernel) rfl (Nat.le_of_ble_eq_true rfl) ?_
  unfold F_X10_sweep at hE
  refine aw_aload_n dX10_sweep_0 rfl ?_
  refine aw_iload_n dX10_sweep_1 rfl ?_
  refine aw_iload_n dX10_sweep_2 rfl ?_
  refine aw_iload_n dX10_sweep_3 rfl ?_
  refine aw_callV dX10_sweep_4 at_mint cvX10_143 rfl (kF_X10_spot m0 sh rr ww so sc pl qo pn bm tg px fa hb _  a1 a2 a3 (fon_ne hE hF)) rfl (Nat.le_of_ble_eq_true rfl) (by decide) (by decide) (by decide) (by decide) (fun E h2 n2 hx => aw_out rfl (by decide) (by decide) (by obtain ⟨s4, e4, rfl, rfl⟩ := hx; exact ⟨_, (fon_ex e4 hE).symm, rfl, rfl⟩)) (fun r4 h4 n4 hp4 => ?_)
  obtain ⟨z4, s4, e4, rfl, rfl, rfl⟩ := hp4
  replace hE := fon_ok e4 hE
  refine aw_istore (lv2 := [(7, _), (0, _), (1, _), (2, _), (3, _), (4, _), (5, _), (6, _)]) dX10_sweep_7 (by decide) rfl ?_
  refine aw_aload_n dX10_sweep_9 rfl ?_
  refine aw_getf (v := .ref 1) dX10_sweep_10 flX10_11_9 at_mint rfl ?_
  refine aw_iload_n dX10_sweep_13 rfl ?_
  obtain ⟨g14, hE⟩ := fgd hE hF
  obtain ⟨G14, hE⟩ := fgd hE hF
  refine aw_aald (y := (sh (Int32.toNatClampNeg a1))) dX10_sweep_14 at_shelves (vp_in_iff.mpr g14) (if_pos (inbN g14)) ?_
  refine aw_astore (lv2 := [(8, _), (7, _), (0, _), (1, _), (2, _), (3, _), (4, _), (5, _), (6, _)]) dX10_sweep_15 (by decide) rfl ?_
  refine aw_iload dX10_sweep_17 rfl ?_
  refine aw_iconst (v := 0) dX10_sweep_19 (by decide) ?_
  refine aw_mmax dX10_sweep_20 csX10_154.1.1 csX10_154.2 csX10_154.1.2.1 csX10_154.1.2.2.1 (by decide) (Nat.le_of_ble_eq_true rfl) (Nat.zero_le _) (Nat.zero_le _) ?_
  refine aw_aload dX10_sweep_23 rfl ?_
  refine aw_eqh (h2 := HC m0 sh (va_up rr (sh (Int32.toNatClampNeg a1)) (rr (sh (Int32.toNatClampNeg a1)))) ww so sc pl qo pn bm tg px fa hb) (by rw [vus rr (sh (Int32.toNatClampNeg a1))]) ?_
  refine aw_callV dX10_sweep_25 (at_ras G14) cvX10_160 rfl (kF_X7_count m0 sh rr (sh (Int32.toNatClampNeg a1)) (rr (sh (Int32.toNatClampNeg a1))) ww so sc pl qo pn bm tg px fa hb _ G14  (fon_ne hE hF)) rfl (Nat.le_of_ble_eq_true rfl) (by decide) (by decide) (by decide) (by decide) (fun _ _ _ hf => False.elim hf) (fun r25 h25 n25 hp25 => ?_)
  obtain ⟨z25, s25, e25, rfl, rfl, rfl⟩ := hp25
  replace hE := fon_ok e25 hE
  refine aw_eqh (h2 := HC m0 sh rr ww so sc pl qo pn bm tg px fa hb) (by rw [vus rr (sh (Int32.toNatClampNeg a1))]) ?_
  refine aw_iload dX10_sweep_28 rfl ?_
  refine aw_isub dX10_sweep_30 ?_
  refine aw_mmin dX10_sweep_31 csX10_163.1.1 csX10_163.2 csX10_163.1.2.1 csX10_163.1.2.2.1 (by decide) (Nat.le_of_ble_eq_true rfl) (Nat.zero_le _) (Nat.zero_le _) ?_
  refine aw_istore (lv2 := [(9, _), (8, _), (7, _), (0, _), (1, _), (2, _), (3, _), (4, _), (5, _), (6, _)]) dX10_sweep_34 (by decide) rfl ?_
  refine aw_iconst (v := 0) dX10_sweep_36 (by decide) ?_
  refine aw_istore (lv2 := [(10, _), (9, _), (8, _), (7, _), (0, _), (1, _), (2, _), (3, _), (4, _), (5, _), (6, _)]) dX10_sweep_37 (by decide) rfl ?_
  exact aw_lv _ (List.forall_mem_cons.mpr ⟨rfl, (List.forall_mem_cons.mpr ⟨rfl, (List.forall_mem_cons.mpr ⟨rfl, (List.forall_mem_cons.mpr ⟨rfl, (List.forall_mem_cons.mpr ⟨rfl, (List.forall_mem_cons.mpr ⟨rfl, fun _ h => absurd h List.not_mem_nil⟩)⟩)⟩)⟩)⟩)⟩) (lp_ind (Q_X10_sweep_39 m0 sh ww so sc pl qo pn bm tg px fa hb n) (fun _ _ _ _ _ _ _ res hq hF => (hF hq.symm).elim) (fun k hk => b_X10_sweep_39 m0 sh ww so sc pl qo pn bm tg px fa hb n   k hk) FU a5 a6 z4 (sh (Int32.toNatClampNeg a1)) (iMin (iMax a4 0) (z25 - z4)) (0 : Int32) rr _ hE hF)
def P_X10_pixel (m0 : Mnt) (sh : Nat → Nat) (rr : Nat → Ras) (ww : Nat → Row) (so : Nat) (sc : Src) (pl : Pal) (qo : Qoi) (pn : Pnm) (bm : Bmp) (tg : Tga) (px : Pcx) (fa : A) (hb : aH) (n : Nat) (res : Out Unit Int32) : Option Value → aH → Nat → Prop := fun r1 h2 n2 => ∃ (a : Int32) (s : Unit), res = fok a s ∧ r1 = some (.int a) ∧ h2 = HC m0 sh rr ww so sc pl qo pn bm tg px fa hb ∧ n = n2
def X_X10_pixel (m0 : Mnt) (sh : Nat → Nat) (rr : Nat → Ras) (ww : Nat → Row) (so : Nat) (sc : Src) (pl : Pal) (qo : Qoi) (pn : Pnm) (bm : Bmp) (tg : Tga) (px : Pcx) (fa : A) (hb : aH) (n : Nat) (res : Out Unit Int32) : String → aH → Nat → Prop := fun E h2 n2 => ∃ s : Unit, res = fex E s ∧ h2 = HC m0 sh rr ww so sc pl qo pn bm tg px fa hb ∧ n = n2
def F_X10_pixel (a1 : Int32) (a2 : Int32) (a3 : Int32) (sh : (Nat → Nat)) (rr : (Nat → Ras)) : Out Unit Int32 := fon (F_X10_spot a1 a2 a3 sh rr) (fun z4 s4 => if inb a1 4 then (if isR (sh (Int32.toNatClampNeg a1)) then (fon (F_X7_get z4 (rr (sh (Int32.toNatClampNeg a1)))) (fun z17 s17 => fok (z17 : Int32) ()) (fun _ _ => fno)) else fno) else fno) (fun E s4 => fex E ())
set_option maxHeartbeats 1000000 in
set_option maxRecDepth 100000 in
theorem kF_X10_pixel (m0 : Mnt) (sh : Nat → Nat) (rr : Nat → Ras) (ww : Nat → Row) (so : Nat) (sc : Src) (pl : Pal) (qo : Qoi) (pn : Pnm) (bm : Bmp) (tg : Tga) (px : Pcx) (fa : A) (hb : aH) (n : Nat)  (a1 : Int32) (a2 : Int32) (a3 : Int32) (hF : F_X10_pixel a1 a2 a3 sh rr ≠ fno) : AM mX10_pixel 4 [.ref 0, .int a1, .int a2, .int a3] (HC m0 sh rr ww so sc pl qo pn bm tg px fa hb) n 1 6 0 0 (P_X10_pixel m0 sh rr ww so sc pl qo pn bm tg px fa hb n (F_X10_pixel a1 a2 a3 sh rr)) (X_X10_pixel m0 sh rr ww so sc pl qo pn bm tg px fa hb n (F_X10_pixel a1 a2 a3 sh rr)) := by
  generalize hE : F_X10_pixel a1 a2 a3 sh rr = res at hF ⊢
  refine aw_of (by decide +kernel) rfl (Nat.le_of_ble_eq_true rfl) ?_
  unfold F_X10_pixel at hE
  refine aw_aload_n dX10_pixel_0 rfl ?_
  refine aw_iload_n dX10_pixel_1 rfl ?_
  refine aw_iload_n dX10_pixel_2 rfl ?_
  refine aw_iload_n dX10_pixel_3 rfl ?_
  refine aw_callV dX10_pixel_4 at_mint cvX10_143 rfl (kF_X10_spot m0 sh rr ww so sc pl qo pn bm tg px fa hb _  a1 a2 a3 (fon_ne hE hF)) rfl (Nat.le_of_ble_eq_true rfl) (by decide) (by decide) (by decide) (by decide) (fun E h2 n2 hx => aw_out rfl (by decide) (by decide) (by obtain ⟨s4, e4, rfl, rfl⟩ := hx; exact ⟨_, (fon_ex e4 hE).symm, rfl, rfl⟩)) (fun r4 h4 n4 hp4 => ?_)
  obtain ⟨z4, s4, e4, rfl, rfl, rfl⟩ := hp4
  replace hE := fon_ok e4 hE
  refine aw_istore (lv2 := [(4, _), (0, _), (1, _), (2, _), (3, _)]) dX10_pixel_7 (by decide) rfl ?_
  refine aw_aload_n dX10_pixel_9 rfl ?_
  refine aw_getf (v := .ref 1) dX10_pixel_10 flX10_11_9 at_mint rfl ?_
  refine aw_iload_n dX10_pixel_13 rfl ?_
  obtain ⟨g14, hE⟩ := fgd hE hF
  obtain ⟨G14, hE⟩ := fgd hE hF
  refine aw_aald (y := (sh (Int32.toNatClampNeg a1))) dX10_pixel_14 at_shelves (vp_in_iff.mpr g14) (if_pos (inbN g14)) ?_
  refine aw_iload dX10_pixel_15 rfl ?_
  refine aw_eqh (h2 := HC m0 sh (va_up rr (sh (Int32.toNatClampNeg a1)) (rr (sh (Int32.toNatClampNeg a1)))) ww so sc pl qo pn bm tg px fa hb) (by rw [vus rr (sh (Int32.toNatClampNeg a1))]) ?_
  refine aw_callV dX10_pixel_17 (at_ras G14) cvX10_147 rfl (kF_X7_get m0 sh rr (sh (Int32.toNatClampNeg a1)) (rr (sh (Int32.toNatClampNeg a1))) ww so sc pl qo pn bm tg px fa hb _ G14 z4 (fon_ne hE hF)) rfl (Nat.le_of_ble_eq_true rfl) (by decide) (by decide) (by decide) (by decide) (fun _ _ _ hf => False.elim hf) (fun r17 h17 n17 hp17 => ?_)
  obtain ⟨z17, s17, e17, rfl, rfl, rfl⟩ := hp17
  replace hE := fon_ok e17 hE
  refine aw_eqh (h2 := HC m0 sh rr ww so sc pl qo pn bm tg px fa hb) (by rw [vus rr (sh (Int32.toNatClampNeg a1))]) ?_
  exact aw_iret dX10_pixel_20 rfl (Nat.zero_le _) (Nat.zero_le _) (Nat.zero_le _) (Nat.zero_le _) ⟨_, _, hE.symm, rfl, rfl, rfl⟩
def P_X10_raster (m0 : Mnt) (sh : Nat → Nat) (rr : Nat → Ras) (ww : Nat → Row) (so : Nat) (sc : Src) (qo : Qoi) (pn : Pnm) (bm : Bmp) (tg : Tga) (px : Pcx) (fa : A) (hb : aH) (n : Nat) (res : Out Pal Int32) : Option Value → aH → Nat → Prop := fun r1 h2 n2 => ∃ (a : Int32) (s : Pal), res = fok a s ∧ r1 = some (.int a) ∧ h2 = HC m0 sh rr ww so sc s qo pn bm tg px fa hb ∧ n = n2
def F_X10_raster (a1 : Int32) (a2 : Int32) (sh : (Nat → Nat)) (rr : (Nat → Ras)) (pl : Pal) : Out Pal Int32 := fon (F_X10_hasRaster a1 sh rr) (fun z2 s2 => if z2 = 0 then (fok ((-1) : Int32) pl) else (if inb a1 4 then (if isR (sh (Int32.toNatClampNeg a1)) then (if a2 = 0 then (fok ((x_w (rr (sh (Int32.toNatClampNeg a1)))) : Int32) pl) else (if a2 = 1 then (fok ((x_g (rr (sh (Int32.toNatClampNeg a1)))) : Int32) pl) else (if a2 = 2 then (fon (F_X3_gather (rr (sh (Int32.toNatClampNeg a1))) pl) (fun z71 s71 => fok ((pl_n s71) : Int32) s71) (fun _ _ => fno)) else (if a2 = 3 then (fon (F_X7_isOpaque (rr (sh (Int32.toNatClampNeg a1)))) (fun z83 s83 => if z83 = 0 then (fok (0 : Int32) pl) else (fok (1 : Int32) pl)) (fun _ _ => fno)) else (if a2 = 4 then (fon (F_X7_isGray (rr (sh (Int32.toNatClampNeg a1)))) (fun z96 s96 => if z96 = 0 then (fok (0 : Int32) pl) else (fok (1 : Int32) pl)) (fun _ _ => fno)) else (if a2 = 5 then (fon (F_X7_isPlain (rr (sh (Int32.toNatClampNeg a1)))) (fun z109 s109 => if z109 = 0 then (fok (0 : Int32) pl) else (fok (1 : Int32) pl)) (fun _ _ => fno)) else (fok ((-1) : Int32) pl))))))) else fno) else fno)) (fun _ _ => fno)
set_option maxHeartbeats 1000000 in
set_option maxRecDepth 100000 in
theorem kF_X10_raster (m0 : Mnt) (sh : Nat → Nat) (rr : Nat → Ras) (ww : Nat → Row) (so : Nat) (sc : Src) (pl : Pal) (qo : Qoi) (pn : Pnm) (bm : Bmp) (tg : Tga) (px : Pcx) (fa : A) (hb : aH) (n : Nat)  (a1 : Int32) (a2 : Int32) (hF : F_X10_raster a1 a2 sh rr pl ≠ fno) : AM mX10_raster 3 [.ref 0, .int a1, .int a2] (HC m0 sh rr ww so sc pl qo pn bm tg px fa hb) n 0 0 0 0 (P_X10_raster m0 sh rr ww so sc qo pn bm tg px fa hb n (F_X10_raster a1 a2 sh rr pl)) (fun _ _ _ => False) := by
  generalize hE : F_X10_raster a1 a2 sh rr pl = res at hF ⊢
  refine aw_of (by decide +kernel) rfl (Nat.le_of_ble_eq_true rfl) ?_
  unfold F_X10_raster at hE
  refine aw_aload_n dX10_raster_0 rfl ?_
  refine aw_iload_n dX10_raster_1 rfl ?_
  refine aw_callV dX10_raster_2 at_mint cvX10_115 rfl (kF_X10_hasRaster m0 sh rr ww so sc pl qo pn bm tg px fa hb _  a1 (fon_ne hE hF)) rfl (Nat.le_of_ble_eq_true rfl) (by decide) (by decide) (by decide) (by decide) (fun _ _ _ hf => False.elim hf) (fun r2 h2 n2 hp2 => ?_)
  obtain ⟨z2, s2, e2, rfl, rfl, rfl⟩ := hp2
  replace hE := fon_ok e2 hE
  refine aw_if_ne (tgt := 10) dX10_raster_5 (by decide) (fun c5 => ?_) (fun c5 => ?_)
  · replace hE := fif hE c5
    refine aw_aload_n dX10_raster_10 rfl ?_
    refine aw_getf (v := .ref 1) dX10_raster_11 flX10_11_9 at_mint rfl ?_
    refine aw_iload_n dX10_raster_14 rfl ?_
    obtain ⟨g15, hE⟩ := fgd hE hF
    obtain ⟨G15, hE⟩ := fgd hE hF
    refine aw_aald (y := (sh (Int32.toNatClampNeg a1))) dX10_raster_15 at_shelves (vp_in_iff.mpr g15) (if_pos (inbN g15)) ?_
    refine aw_astore_n (lv2 := [(3, _), (0, _), (1, _), (2, _)]) dX10_raster_16 (by decide) rfl ?_
    refine aw_iload_n dX10_raster_17 rfl ?_
    by_cases e18_0 : a2 = 0
    · replace hE := fit hE e18_0
      refine aw_tableIn (tgt := 56) dX10_raster_18 (by rw [e18_0]; decide) (by rw [e18_0]; decide) (off := 38) (by rw [e18_0]; decide) (by decide) ?_
      refine aw_aload_n dX10_raster_56 rfl ?_
      refine aw_getf (v := .int (x_w (rr (sh (Int32.toNatClampNeg a1))))) dX10_raster_57 flX10_135_6 (at_rasT G15) rfl ?_
      exact aw_iret dX10_raster_60 rfl (Nat.zero_le _) (Nat.zero_le _) (Nat.zero_le _) (Nat.zero_le _) ⟨_, _, hE.symm, rfl, rfl, rfl⟩
    replace hE := fif hE e18_0
    by_cases e18_1 : a2 = 1
    · replace hE := fit hE e18_1
      refine aw_tableIn (tgt := 61) dX10_raster_18 (by rw [e18_1]; decide) (by rw [e18_1]; decide) (off := 43) (by rw [e18_1]; decide) (by decide) ?_
      refine aw_aload_n dX10_raster_61 rfl ?_
      refine aw_getf (v := .int (x_g (rr (sh (Int32.toNatClampNeg a1))))) dX10_raster_62 flX10_138_6 (at_rasT G15) rfl ?_
      exact aw_iret dX10_raster_65 rfl (Nat.zero_le _) (Nat.zero_le _) (Nat.zero_le _) (Nat.zero_le _) ⟨_, _, hE.symm, rfl, rfl, rfl⟩
    replace hE := fif hE e18_1
    by_cases e18_2 : a2 = 2
    · replace hE := fit hE e18_2
      refine aw_tableIn (tgt := 66) dX10_raster_18 (by rw [e18_2]; decide) (by rw [e18_2]; decide) (off := 48) (by rw [e18_2]; decide) (by decide) ?_
      refine aw_aload_n dX10_raster_66 rfl ?_
      refine aw_getf (v := .ref 17) dX10_raster_67 flX10_42_9 at_mint rfl ?_
      refine aw_aload_n dX10_raster_70 rfl ?_
      refine aw_eqh (h2 := HC m0 sh (va_up rr (sh (Int32.toNatClampNeg a1)) (rr (sh (Int32.toNatClampNeg a1)))) ww so sc pl qo pn bm tg px fa hb) (by rw [vus rr (sh (Int32.toNatClampNeg a1))]) ?_
      refine aw_callV dX10_raster_71 at_pal cvX10_166 rfl (kF_X3_gather m0 sh rr (sh (Int32.toNatClampNeg a1)) (rr (sh (Int32.toNatClampNeg a1))) ww so sc pl qo pn bm tg px fa hb _ G15  (fon_ne hE hF)) rfl (Nat.le_of_ble_eq_true rfl) (by decide) (by decide) (by decide) (by decide) (fun _ _ _ hf => False.elim hf) (fun r71 h71 n71 hp71 => ?_)
      obtain ⟨z71, s71, e71, rfl, rfl, rfl⟩ := hp71
      replace hE := fon_ok e71 hE
      refine aw_eqh (h2 := HC m0 sh rr ww so sc s71 qo pn bm tg px fa hb) (by rw [vus rr (sh (Int32.toNatClampNeg a1))]) ?_
      refine aw_aload_n dX10_raster_74 rfl ?_
      refine aw_getf (v := .ref 17) dX10_raster_75 flX10_42_9 at_mint rfl ?_
      refine aw_getf (v := .int (pl_n s71)) dX10_raster_78 flX10_170_2 at_pal rfl ?_
      exact aw_iret dX10_raster_81 rfl (Nat.zero_le _) (Nat.zero_le _) (Nat.zero_le _) (Nat.zero_le _) ⟨_, _, hE.symm, rfl, rfl, rfl⟩
    replace hE := fif hE e18_2
    by_cases e18_3 : a2 = 3
    · replace hE := fit hE e18_3
      refine aw_tableIn (tgt := 82) dX10_raster_18 (by rw [e18_3]; decide) (by rw [e18_3]; decide) (off := 64) (by rw [e18_3]; decide) (by decide) ?_
      refine aw_aload_n dX10_raster_82 rfl ?_
      refine aw_eqh (h2 := HC m0 sh (va_up rr (sh (Int32.toNatClampNeg a1)) (rr (sh (Int32.toNatClampNeg a1)))) ww so sc pl qo pn bm tg px fa hb) (by rw [vus rr (sh (Int32.toNatClampNeg a1))]) ?_
      refine aw_callV dX10_raster_83 (at_ras G15) cvX10_171 rfl (kF_X7_isOpaque m0 sh rr (sh (Int32.toNatClampNeg a1)) (rr (sh (Int32.toNatClampNeg a1))) ww so sc pl qo pn bm tg px fa hb _ G15  (fon_ne hE hF)) rfl (Nat.le_of_ble_eq_true rfl) (by decide) (by decide) (by decide) (by decide) (fun _ _ _ hf => False.elim hf) (fun r83 h83 n83 hp83 => ?_)
      obtain ⟨z83, s83, e83, rfl, rfl, rfl⟩ := hp83
      replace hE := fon_ok e83 hE
      refine aw_eqh (h2 := HC m0 sh rr ww so sc pl qo pn bm tg px fa hb) (by rw [vus rr (sh (Int32.toNatClampNeg a1))]) ?_
      refine aw_if_eq (tgt := 93) dX10_raster_86 (by decide) (fun c86 => ?_) (fun c86 => ?_)
      · replace hE := fit hE c86
        refine aw_iconst (v := 0) dX10_raster_93 (by decide) ?_
        exact aw_iret dX10_raster_94 rfl (Nat.zero_le _) (Nat.zero_le _) (Nat.zero_le _) (Nat.zero_le _) ⟨_, _, hE.symm, rfl, rfl, rfl⟩
      · replace hE := fif hE c86
        refine aw_iconst (v := 1) dX10_raster_89 (by decide) ?_
        refine aw_goto (tgt := 94) dX10_raster_90 (by decide) ?_
        exact aw_iret dX10_raster_94 rfl (Nat.zero_le _) (Nat.zero_le _) (Nat.zero_le _) (Nat.zero_le _) ⟨_, _, hE.symm, rfl, rfl, rfl⟩
    replace hE := fif hE e18_3
    by_cases e18_4 : a2 = 4
    · replace hE := fit hE e18_4
      refine aw_tableIn (tgt := 95) dX10_raster_18 (by rw [e18_4]; decide) (by rw [e18_4]; decide) (off := 77) (by rw [e18_4]; decide) (by decide) ?_
      refine aw_aload_n dX10_raster_95 rfl ?_
      refine aw_eqh (h2 := HC m0 sh (va_up rr (sh (Int32.toNatClampNeg a1)) (rr (sh (Int32.toNatClampNeg a1)))) ww so sc pl qo pn bm tg px fa hb) (by rw [vus rr (sh (Int32.toNatClampNeg a1))]) ?_
      refine aw_callV dX10_raster_96 (at_ras G15) cvX10_175 rfl (kF_X7_isGray m0 sh rr (sh (Int32.toNatClampNeg a1)) (rr (sh (Int32.toNatClampNeg a1))) ww so sc pl qo pn bm tg px fa hb _ G15  (fon_ne hE hF)) rfl (Nat.le_of_ble_eq_true rfl) (by decide) (by decide) (by decide) (by decide) (fun _ _ _ hf => False.elim hf) (fun r96 h96 n96 hp96 => ?_)
      obtain ⟨z96, s96, e96, rfl, rfl, rfl⟩ := hp96
      replace hE := fon_ok e96 hE
      refine aw_eqh (h2 := HC m0 sh rr ww so sc pl qo pn bm tg px fa hb) (by rw [vus rr (sh (Int32.toNatClampNeg a1))]) ?_
      refine aw_if_eq (tgt := 106) dX10_raster_99 (by decide) (fun c99 => ?_) (fun c99 => ?_)
      · replace hE := fit hE c99
        refine aw_iconst (v := 0) dX10_raster_106 (by decide) ?_
        exact aw_iret dX10_raster_107 rfl (Nat.zero_le _) (Nat.zero_le _) (Nat.zero_le _) (Nat.zero_le _) ⟨_, _, hE.symm, rfl, rfl, rfl⟩
      · replace hE := fif hE c99
        refine aw_iconst (v := 1) dX10_raster_102 (by decide) ?_
        refine aw_goto (tgt := 107) dX10_raster_103 (by decide) ?_
        exact aw_iret dX10_raster_107 rfl (Nat.zero_le _) (Nat.zero_le _) (Nat.zero_le _) (Nat.zero_le _) ⟨_, _, hE.symm, rfl, rfl, rfl⟩
    replace hE := fif hE e18_4
    by_cases e18_5 : a2 = 5
    · replace hE := fit hE e18_5
      refine aw_tableIn (tgt := 108) dX10_raster_18 (by rw [e18_5]; decide) (by rw [e18_5]; decide) (off := 90) (by rw [e18_5]; decide) (by decide) ?_
      refine aw_aload_n dX10_raster_108 rfl ?_
      refine aw_eqh (h2 := HC m0 sh (va_up rr (sh (Int32.toNatClampNeg a1)) (rr (sh (Int32.toNatClampNeg a1)))) ww so sc pl qo pn bm tg px fa hb) (by rw [vus rr (sh (Int32.toNatClampNeg a1))]) ?_
      refine aw_callV dX10_raster_109 (at_ras G15) cvX10_178 rfl (kF_X7_isPlain m0 sh rr (sh (Int32.toNatClampNeg a1)) (rr (sh (Int32.toNatClampNeg a1))) ww so sc pl qo pn bm tg px fa hb _ G15  (fon_ne hE hF)) rfl (Nat.le_of_ble_eq_true rfl) (by decide) (by decide) (by decide) (by decide) (fun _ _ _ hf => False.elim hf) (fun r109 h109 n109 hp109 => ?_)
      obtain ⟨z109, s109, e109, rfl, rfl, rfl⟩ := hp109
      replace hE := fon_ok e109 hE
      refine aw_eqh (h2 := HC m0 sh rr ww so sc pl qo pn bm tg px fa hb) (by rw [vus rr (sh (Int32.toNatClampNeg a1))]) ?_
      refine aw_if_eq (tgt := 119) dX10_raster_112 (by decide) (fun c112 => ?_) (fun c112 => ?_)
      · replace hE := fit hE c112
        refine aw_iconst (v := 0) dX10_raster_119 (by decide) ?_
        exact aw_iret dX10_raster_120 rfl (Nat.zero_le _) (Nat.zero_le _) (Nat.zero_le _) (Nat.zero_le _) ⟨_, _, hE.symm, rfl, rfl, rfl⟩
      · replace hE := fif hE c112
        refine aw_iconst (v := 1) dX10_raster_115 (by decide) ?_
        refine aw_goto (tgt := 120) dX10_raster_116 (by decide) ?_
        exact aw_iret dX10_raster_120 rfl (Nat.zero_le _) (Nat.zero_le _) (Nat.zero_le _) (Nat.zero_le _) ⟨_, _, hE.symm, rfl, rfl, rfl⟩
    replace hE := fif hE e18_5
    have q18_0 : ¬ Int32.toInt a2 = 0 := fun q => e18_0 (Int32.toInt_inj.mp (q.trans (by decide)))
    have q18_1 : ¬ Int32.toInt a2 = 1 := fun q => e18_1 (Int32.toInt_inj.mp (q.trans (by decide)))
    have q18_2 : ¬ Int32.toInt a2 = 2 := fun q => e18_2 (Int32.toInt_inj.mp (q.trans (by decide)))
    have q18_3 : ¬ Int32.toInt a2 = 3 := fun q => e18_3 (Int32.toInt_inj.mp (q.trans (by decide)))
    have q18_4 : ¬ Int32.toInt a2 = 4 := fun q => e18_4 (Int32.toInt_inj.mp (q.trans (by decide)))
    have q18_5 : ¬ Int32.toInt a2 = 5 := fun q => e18_5 (Int32.toInt_inj.mp (q.trans (by decide)))
    refine aw_tableOut (tgt := 121) dX10_raster_18 (by omega) (by decide) ?_
    refine aw_iconst (v := (-1)) dX10_raster_121 (by decide) ?_
    exact aw_iret dX10_raster_122 rfl (Nat.zero_le _) (Nat.zero_le _) (Nat.zero_le _) (Nat.zero_le _) ⟨_, _, hE.symm, rfl, rfl, rfl⟩
  · replace hE := fit hE c5
    refine aw_iconst (v := (-1)) dX10_raster_8 (by decide) ?_
    exact aw_iret dX10_raster_9 rfl (Nat.zero_le _) (Nat.zero_le _) (Nat.zero_le _) (Nat.zero_le _) ⟨_, _, hE.symm, rfl, rfl, rfl⟩
def P_X10_holds (m0 : Mnt) (sh : Nat → Nat) (rr : Nat → Ras) (ww : Nat → Row) (so : Nat) (sc : Src) (qo : Qoi) (pn : Pnm) (bm : Bmp) (tg : Tga) (px : Pcx) (fa : A) (hb : aH) (n : Nat) (res : Out Pal Int32) : Option Value → aH → Nat → Prop := fun r1 h2 n2 => ∃ (a : Int32) (s : Pal), res = fok a s ∧ r1 = some (.int a) ∧ h2 = HC m0 sh rr ww so sc s qo pn bm tg px fa hb ∧ n = n2
abbrev Q_X10_holds_26 (m0 : Mnt) (sh : Nat → Nat) (rr : Nat → Ras) (ww : Nat → Row) (so : Nat) (sc : Src) (qo : Qoi) (pn : Pnm) (bm : Bmp) (tg : Tga) (px : Pcx) (fa : A) (hb : aH) (n : Nat) (k : Pal → Out Pal Int32) : Prop := ∀ (pl : Pal) (res : Out Pal Int32), k pl = res → res ≠ fno → AW (fun _ _ => True) mX10_holds (rmD 5 0 0) 0 0 (P_X10_holds m0 sh rr ww so sc qo pn bm tg px fa hb n res) (fun _ _ _ => False) 0 0 26 [] [] (HC m0 sh rr ww so sc pl qo pn bm tg px fa hb) n
def F_X10_holds_26 (sh : (Nat → Nat)) (rr : (Nat → Ras))  (pl : Pal) : Out Pal Int32 := fok (0 : Int32) pl
set_option maxHeartbeats 1000000 in
set_option maxRecDepth 100000 in
theorem b_X10_holds_26 (m0 : Mnt) (sh : Nat → Nat) (rr : Nat → Ras) (ww : Nat → Row) (so : Nat) (sc : Src) (qo : Qoi) (pn : Pnm) (bm : Bmp) (tg : Tga) (px : Pcx) (fa : A) (hb : aH) (n : Nat)   : Q_X10_holds_26 m0 sh rr ww so sc qo pn bm tg px fa hb n (F_X10_holds_26 sh rr) := by
  intro pl res hE hF
  unfold F_X10_holds_26 at hE
  refine aw_iconst (v := 0) dX10_holds_26 (by decide) ?_
  exact aw_zret dX10_holds_27 rfl (narB (by decide)) (Nat.zero_le _) (Nat.zero_le _) (Nat.zero_le _) (Nat.zero_le _) ⟨_, _, hE.symm, rfl, rfl, rfl⟩
def F_X10_holds (a1 : Int32) (a2 : Int32) (sh : (Nat → Nat)) (rr : (Nat → Ras)) (pl : Pal) : Out Pal Int32 := fon (F_X10_hasRaster a1 sh rr) (fun z2 s2 => if z2 = 0 then (F_X10_holds_26 sh rr pl) else (if inb a1 4 then (if isR (sh (Int32.toNatClampNeg a1)) then (fon (F_X10_fits a2 (rr (sh (Int32.toNatClampNeg a1))) pl) (fun z16 s16 => if z16 = 0 then (F_X10_holds_26 sh rr s16) else (fok (1 : Int32) s16)) (fun _ _ => fno)) else fno) else fno)) (fun _ _ => fno)
set_option maxHeartbeats 1000000 in
set_option maxRecDepth 100000 in
theorem kF_X10_holds (m0 : Mnt) (sh : Nat → Nat) (rr : Nat → Ras) (ww : Nat → Row) (so : Nat) (sc : Src) (pl : Pal) (qo : Qoi) (pn : Pnm) (bm : Bmp) (tg : Tga) (px : Pcx) (fa : A) (hb : aH) (n : Nat)  (a1 : Int32) (a2 : Int32) (hF : F_X10_holds a1 a2 sh rr pl ≠ fno) : AM mX10_holds 5 [.ref 0, .int a1, .int a2] (HC m0 sh rr ww so sc pl qo pn bm tg px fa hb) n 0 0 0 0 (P_X10_holds m0 sh rr ww so sc qo pn bm tg px fa hb n (F_X10_holds a1 a2 sh rr pl)) (fun _ _ _ => False) := by
  generalize hE : F_X10_holds a1 a2 sh rr pl = res at hF ⊢
  refine aw_of (by decide +kernel) rfl (Nat.le_of_ble_eq_true rfl) ?_
  unfold F_X10_holds at hE
  refine aw_aload_n dX10_holds_0 rfl ?_
  refine aw_iload_n dX10_holds_1 rfl ?_
  refine aw_callV dX10_holds_2 at_mint cvX10_115 rfl (kF_X10_hasRaster m0 sh rr ww so sc pl qo pn bm tg px fa hb _  a1 (fon_ne hE hF)) rfl (Nat.le_of_ble_eq_true rfl) (by decide) (by decide) (by decide) (by decide) (fun _ _ _ hf => False.elim hf) (fun r2 h2 n2 hp2 => ?_)
  obtain ⟨z2, s2, e2, rfl, rfl, rfl⟩ := hp2
  replace hE := fon_ok e2 hE
  refine aw_if_eq (tgt := 26) dX10_holds_5 (by decide) (fun c5 => ?_) (fun c5 => ?_)
  · replace hE := fit hE c5
    exact aw_lv _ (fun _ h => absurd h List.not_mem_nil) (b_X10_holds_26 m0 sh rr ww so sc qo pn bm tg px fa hb n   pl _ hE hF)
  · replace hE := fif hE c5
    refine aw_aload_n dX10_holds_8 rfl ?_
    refine aw_aload_n dX10_holds_9 rfl ?_
    refine aw_getf (v := .ref 1) dX10_holds_10 flX10_11_9 at_mint rfl ?_
    refine aw_iload_n dX10_holds_13 rfl ?_
    obtain ⟨g14, hE⟩ := fgd hE hF
    obtain ⟨G14, hE⟩ := fgd hE hF
    refine aw_aald (y := (sh (Int32.toNatClampNeg a1))) dX10_holds_14 at_shelves (vp_in_iff.mpr g14) (if_pos (inbN g14)) ?_
    refine aw_iload_n dX10_holds_15 rfl ?_
    refine aw_eqh (h2 := HC m0 sh (va_up rr (sh (Int32.toNatClampNeg a1)) (rr (sh (Int32.toNatClampNeg a1)))) ww so sc pl qo pn bm tg px fa hb) (by rw [vus rr (sh (Int32.toNatClampNeg a1))]) ?_
    refine aw_callV dX10_holds_16 at_mint cvX10_181 rfl (kF_X10_fits m0 sh rr (sh (Int32.toNatClampNeg a1)) (rr (sh (Int32.toNatClampNeg a1))) ww so sc pl qo pn bm tg px fa hb _ G14 a2 (fon_ne hE hF)) rfl (Nat.le_of_ble_eq_true rfl) (by decide) (by decide) (by decide) (by decide) (fun _ _ _ hf => False.elim hf) (fun r16 h16 n16 hp16 => ?_)
    obtain ⟨z16, s16, e16, rfl, rfl, rfl⟩ := hp16
    replace hE := fon_ok e16 hE
    refine aw_eqh (h2 := HC m0 sh rr ww so sc s16 qo pn bm tg px fa hb) (by rw [vus rr (sh (Int32.toNatClampNeg a1))]) ?_
    refine aw_if_eq (tgt := 26) dX10_holds_19 (by decide) (fun c19 => ?_) (fun c19 => ?_)
    · replace hE := fit hE c19
      exact aw_lv _ (fun _ h => absurd h List.not_mem_nil) (b_X10_holds_26 m0 sh rr ww so sc qo pn bm tg px fa hb n   s16 _ hE hF)
    · replace hE := fif hE c19
      refine aw_iconst (v := 1) dX10_holds_22 (by decide) ?_
      refine aw_goto (tgt := 27) dX10_holds_23 (by decide) ?_
      exact aw_zret dX10_holds_27 rfl (narB (by decide)) (Nat.zero_le _) (Nat.zero_le _) (Nat.zero_le _) (Nat.zero_le _) ⟨_, _, hE.symm, rfl, rfl, rfl⟩
