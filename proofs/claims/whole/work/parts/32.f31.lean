def P_X5_encode (m0 : Mnt) (sh : Nat → Nat) (rr : Nat → Ras) (r : Nat) (x : Ras) (ww : Nat → Row) (o : Nat) (so : Nat) (sc : Src) (pl : Pal) (qo : Qoi) (pn : Pnm) (bm : Bmp) (tg : Tga) (px : Pcx) (fa : A) (hb : aH) (n : Nat) (res : Out Row Unit) : Option Value → aH → Nat → Prop := fun r1 h2 n2 => ∃ (a : Unit) (s : Row), res = fok a s ∧ r1 = none ∧ h2 = HC m0 sh (va_up rr r x) (va_up ww o s) so sc pl qo pn bm tg px fa hb ∧ n = n2
def F_X5_encode (a2 : Int32) (x : Ras) (y : Row) : Out Row Unit := fon (F_X1_add 80 y) (fun z3 s3 => fon (F_X1_add (48 + a2) s3) (fun z11 s11 => fon (F_X1_add 10 s11) (fun z17 s17 => fon (F_X1_addDecimal (x_w x) s17) (fun z25 s25 => fon (F_X1_add 32 s25) (fun z31 s31 => fon (F_X1_addDecimal (x_g x) s31) (fun z39 s39 => fon (F_X1_add 10 s39) (fun z45 s45 => if a2 = 1 then (fon (F_X5_writeSigns x s45) (fun z55 s55 => fok () s55) (fun _ _ => fno)) else (if a2 = 4 then (fon (F_X5_writeBits x s45) (fun z68 s68 => fok () s68) (fun _ _ => fno)) else (fon (F_X5_writeSamples a2 x s45) (fun z77 s77 => fok () s77) (fun _ _ => fno)))) (fun _ _ => fno)) (fun _ _ => fno)) (fun _ _ => fno)) (fun _ _ => fno)) (fun _ _ => fno)) (fun _ _ => fno)) (fun _ _ => fno)
set_option maxHeartbeats 1000000 in
set_option maxRecDepth 100000 in
theorem kF_X5_encode (m0 : Mnt) (sh : Nat → Nat) (rr : Nat → Ras) (r : Nat) (x : Ras) (ww : Nat → Row) (o : Nat) (y : Row) (so : Nat) (sc : Src) (pl : Pal) (qo : Qoi) (pn : Pnm) (bm : Bmp) (tg : Tga) (px : Pcx) (fa : A) (hb : aH) (n : Nat) (hr : isR r) (ho : isW o) (a2 : Int32) (hF : F_X5_encode a2 x y ≠ fno) : AM mX5_encode 5 [.ref 23, .ref r, .int a2, .ref o] (HC m0 sh (va_up rr r x) (va_up ww o y) so sc pl qo pn bm tg px fa hb) n 0 0 0 0 (P_X5_encode m0 sh rr r x ww o so sc pl qo pn bm tg px fa hb n (F_X5_encode a2 x y)) (fun _ _ _ => False) := by
  generalize hE : F_X5_encode a2 x y = res at hF ⊢
  refine aw_of (by decide +kernel) rfl (Nat.le_of_ble_eq_true rfl) ?_
  unfold F_X5_encode at hE
  refine aw_aload_n dX5_encode_0 rfl ?_
  refine aw_bipush (v := 80) dX5_encode_1 (by decide) ?_
  refine aw_callV dX5_encode_3 (at_row ho) cvX5_124 rfl (kF_X1_add m0 sh (va_up rr r x) ww o y so sc pl qo pn bm tg px fa hb _ ho 80 (fon_ne hE hF)) rfl (Nat.le_of_ble_eq_true rfl) (by decide) (by decide) (by decide) (by decide) (fun _ _ _ hf => False.elim hf) (fun r3 h3 n3 hp3 => ?_)
  obtain ⟨z3, s3, e3, rfl, rfl, rfl⟩ := hp3
  replace hE := fon_ok e3 hE
  refine aw_aload_n dX5_encode_6 rfl ?_
  refine aw_bipush (v := 48) dX5_encode_7 (by decide) ?_
  refine aw_iload_n dX5_encode_9 rfl ?_
  refine aw_iadd dX5_encode_10 ?_
  refine aw_callV dX5_encode_11 (at_row ho) cvX5_124 rfl (kF_X1_add m0 sh (va_up rr r x) ww o s3 so sc pl qo pn bm tg px fa hb _ ho (48 + a2) (fon_ne hE hF)) rfl (Nat.le_of_ble_eq_true rfl) (by decide) (by decide) (by decide) (by decide) (fun _ _ _ hf => False.elim hf) (fun r11 h11 n11 hp11 => ?_)
  obtain ⟨z11, s11, e11, rfl, rfl, rfl⟩ := hp11
  replace hE := fon_ok e11 hE
  refine aw_aload_n dX5_encode_14 rfl ?_
  refine aw_bipush (v := 10) dX5_encode_15 (by decide) ?_
  refine aw_callV dX5_encode_17 (at_row ho) cvX5_124 rfl (kF_X1_add m0 sh (va_up rr r x) ww o s11 so sc pl qo pn bm tg px fa hb _ ho 10 (fon_ne hE hF)) rfl (Nat.le_of_ble_eq_true rfl) (by decide) (by decide) (by decide) (by decide) (fun _ _ _ hf => False.elim hf) (fun r17 h17 n17 hp17 => ?_)
  obtain ⟨z17, s17, e17, rfl, rfl, rfl⟩ := hp17
  replace hE := fon_ok e17 hE
  refine aw_aload_n dX5_encode_20 rfl ?_
  refine aw_aload_n dX5_encode_21 rfl ?_
  refine aw_getf (v := .int (x_w x)) dX5_encode_22 flX5_114_6 (at_ras hr) rfl ?_
  refine aw_callV dX5_encode_25 (at_row ho) cvX5_129 rfl (kF_X1_addDecimal m0 sh (va_up rr r x) ww o s17 so sc pl qo pn bm tg px fa hb _ ho (x_w x) (fon_ne hE hF)) rfl (Nat.le_of_ble_eq_true rfl) (by decide) (by decide) (by decide) (by decide) (fun _ _ _ hf => False.elim hf) (fun r25 h25 n25 hp25 => ?_)
  obtain ⟨z25, s25, e25, rfl, rfl, rfl⟩ := hp25
  replace hE := fon_ok e25 hE
  refine aw_aload_n dX5_encode_28 rfl ?_
  refine aw_bipush (v := 32) dX5_encode_29 (by decide) ?_
  refine aw_callV dX5_encode_31 (at_row ho) cvX5_124 rfl (kF_X1_add m0 sh (va_up rr r x) ww o s25 so sc pl qo pn bm tg px fa hb _ ho 32 (fon_ne hE hF)) rfl (Nat.le_of_ble_eq_true rfl) (by decide) (by decide) (by decide) (by decide) (fun _ _ _ hf => False.elim hf) (fun r31 h31 n31 hp31 => ?_)
  obtain ⟨z31, s31, e31, rfl, rfl, rfl⟩ := hp31
  replace hE := fon_ok e31 hE
  refine aw_aload_n dX5_encode_34 rfl ?_
  refine aw_aload_n dX5_encode_35 rfl ?_
  refine aw_getf (v := .int (x_g x)) dX5_encode_36 flX5_111_6 (at_ras hr) rfl ?_
  refine aw_callV dX5_encode_39 (at_row ho) cvX5_129 rfl (kF_X1_addDecimal m0 sh (va_up rr r x) ww o s31 so sc pl qo pn bm tg px fa hb _ ho (x_g x) (fon_ne hE hF)) rfl (Nat.le_of_ble_eq_true rfl) (by decide) (by decide) (by decide) (by decide) (fun _ _ _ hf => False.elim hf) (fun r39 h39 n39 hp39 => ?_)
  obtain ⟨z39, s39, e39, rfl, rfl, rfl⟩ := hp39
  replace hE := fon_ok e39 hE
  refine aw_aload_n dX5_encode_42 rfl ?_
  refine aw_bipush (v := 10) dX5_encode_43 (by decide) ?_
  refine aw_callV dX5_encode_45 (at_row ho) cvX5_124 rfl (kF_X1_add m0 sh (va_up rr r x) ww o s39 so sc pl qo pn bm tg px fa hb _ ho 10 (fon_ne hE hF)) rfl (Nat.le_of_ble_eq_true rfl) (by decide) (by decide) (by decide) (by decide) (fun _ _ _ hf => False.elim hf) (fun r45 h45 n45 hp45 => ?_)
  obtain ⟨z45, s45, e45, rfl, rfl, rfl⟩ := hp45
  replace hE := fon_ok e45 hE
  refine aw_iload_n dX5_encode_48 rfl ?_
  refine aw_iconst (v := 1) dX5_encode_49 (by decide) ?_
  refine aw_icmp_ne (tgt := 61) dX5_encode_50 (by decide) (fun c50 => ?_) (fun c50 => ?_)
  · replace hE := fif hE c50
    refine aw_iload_n dX5_encode_61 rfl ?_
    refine aw_iconst (v := 4) dX5_encode_62 (by decide) ?_
    refine aw_icmp_ne (tgt := 74) dX5_encode_63 (by decide) (fun c63 => ?_) (fun c63 => ?_)
    · replace hE := fif hE c63
      refine aw_aload_n dX5_encode_74 rfl ?_
      refine aw_iload_n dX5_encode_75 rfl ?_
      refine aw_aload_n dX5_encode_76 rfl ?_
      refine aw_callS dX5_encode_77  csX5_139 rfl (kF_X5_writeSamples m0 sh rr r x ww o s45 so sc pl qo pn bm tg px fa hb _ hr ho a2 (fon_ne hE hF)) rfl (Nat.le_of_ble_eq_true rfl) (by decide) (by decide) (by decide) (by decide) (fun _ _ _ hf => False.elim hf) (fun r77 h77 n77 hp77 => ?_)
      obtain ⟨z77, s77, e77, rfl, rfl, rfl⟩ := hp77
      replace hE := fon_ok e77 hE
      exact aw_vret dX5_encode_80 rfl (Nat.zero_le _) (Nat.zero_le _) (Nat.zero_le _) (Nat.zero_le _) ⟨_, _, hE.symm, rfl, rfl, rfl⟩
    · replace hE := fit hE c63
      refine aw_aload_n dX5_encode_66 rfl ?_
      refine aw_aload_n dX5_encode_67 rfl ?_
      refine aw_callS dX5_encode_68  csX5_136 rfl (kF_X5_writeBits m0 sh rr r x ww o s45 so sc pl qo pn bm tg px fa hb _ hr ho  (fon_ne hE hF)) rfl (Nat.le_of_ble_eq_true rfl) (by decide) (by decide) (by decide) (by decide) (fun _ _ _ hf => False.elim hf) (fun r68 h68 n68 hp68 => ?_)
      obtain ⟨z68, s68, e68, rfl, rfl, rfl⟩ := hp68
      replace hE := fon_ok e68 hE
      refine aw_goto (tgt := 80) dX5_encode_71 (by decide) ?_
      exact aw_vret dX5_encode_80 rfl (Nat.zero_le _) (Nat.zero_le _) (Nat.zero_le _) (Nat.zero_le _) ⟨_, _, hE.symm, rfl, rfl, rfl⟩
  · replace hE := fit hE c50
    refine aw_aload_n dX5_encode_53 rfl ?_
    refine aw_aload_n dX5_encode_54 rfl ?_
    refine aw_callS dX5_encode_55  csX5_132 rfl (kF_X5_writeSigns m0 sh rr r x ww o s45 so sc pl qo pn bm tg px fa hb _ hr ho  (fon_ne hE hF)) rfl (Nat.le_of_ble_eq_true rfl) (by decide) (by decide) (by decide) (by decide) (fun _ _ _ hf => False.elim hf) (fun r55 h55 n55 hp55 => ?_)
    obtain ⟨z55, s55, e55, rfl, rfl, rfl⟩ := hp55
    replace hE := fon_ok e55 hE
    refine aw_goto (tgt := 80) dX5_encode_58 (by decide) ?_
    exact aw_vret dX5_encode_80 rfl (Nat.zero_le _) (Nat.zero_le _) (Nat.zero_le _) (Nat.zero_le _) ⟨_, _, hE.symm, rfl, rfl, rfl⟩
def P_X6_writePixel (m0 : Mnt) (sh : Nat → Nat) (rr : Nat → Ras) (ww : Nat → Row) (o : Nat) (so : Nat) (sc : Src) (pl : Pal) (qo : Qoi) (pn : Pnm) (bm : Bmp) (tg : Tga) (px : Pcx) (fa : A) (hb : aH) (n : Nat) (res : Out Row Unit) : Option Value → aH → Nat → Prop := fun r1 h2 n2 => ∃ (a : Unit) (s : Row), res = fok a s ∧ r1 = none ∧ h2 = HC m0 sh rr (va_up ww o s) so sc pl qo pn bm tg px fa hb ∧ n = n2
def F_X6_writePixel (a1 : Int32) (y : Row) (qo : Qoi) : Out Row Unit := if inb (F_X6_homeOf a1) 64 then (if ((qo_pl qo) (Int32.toNatClampNeg (F_X6_homeOf a1))) = a1 then (fon (F_X1_add (F_X6_homeOf a1) y) (fun z18 s18 => fok () s18) (fun _ _ => fno)) else (if (F_X10_alphaOf a1) = (F_X10_alphaOf (qo_last qo)) then (fon (F_X6_writeMove a1 y qo) (fun z56 s56 => if z56 = 0 then (fon (F_X1_add 254 s56) (fun z66 s66 => fon (F_X1_add (F_X10_redOf a1) s66) (fun z74 s74 => fon (F_X1_add (F_X10_greenOf a1) s74) (fun z82 s82 => fon (F_X1_add (F_X10_blueOf a1) s82) (fun z90 s90 => fok () s90) (fun _ _ => fno)) (fun _ _ => fno)) (fun _ _ => fno)) (fun _ _ => fno)) else (fok () s56)) (fun _ _ => fno)) else (fon (F_X1_add 255 y) (fun z42 s42 => fon (F_X1_addHigh4 a1 s42) (fun z47 s47 => fok () s47) (fun _ _ => fno)) (fun _ _ => fno)))) else fno
set_option maxHeartbeats 1000000 in
set_option maxRecDepth 100000 in
theorem kF_X6_writePixel (m0 : Mnt) (sh : Nat → Nat) (rr : Nat → Ras) (ww : Nat → Row) (o : Nat) (y : Row) (so : Nat) (sc : Src) (pl : Pal) (qo : Qoi) (pn : Pnm) (bm : Bmp) (tg : Tga) (px : Pcx) (fa : A) (hb : aH) (n : Nat) (ho : isW o) (a1 : Int32) (hF : F_X6_writePixel a1 y qo ≠ fno) : AM mX6_writePixel 3 [.ref 21, .int a1, .ref o] (HC m0 sh rr (va_up ww o y) so sc pl qo pn bm tg px fa hb) n 0 0 0 0 (P_X6_writePixel m0 sh rr ww o so sc pl qo pn bm tg px fa hb n (F_X6_writePixel a1 y qo)) (fun _ _ _ => False) := by
  generalize hE : F_X6_writePixel a1 y qo = res at hF ⊢
  refine aw_of (by decide +kernel) rfl (Nat.le_of_ble_eq_true rfl) ?_
  unfold F_X6_writePixel at hE
  refine aw_aload_n dX6_writePixel_0 rfl ?_
  refine aw_getf (v := .ref 22) dX6_writePixel_1 flX6_9_5 at_qoi rfl ?_
  refine aw_iload_n dX6_writePixel_4 rfl ?_
  refine aw_callS dX6_writePixel_5  csX6_114 rfl (kF_X6_homeOf _ _ a1) rfl (Nat.le_of_ble_eq_true rfl) (by decide) (by decide) (by decide) (by decide) (fun _ _ _ hf => False.elim hf) (fun r5 h5 n5 hp5 => ?_)
  obtain ⟨rfl, rfl, rfl⟩ := hp5
  obtain ⟨g8, hE⟩ := fgd hE hF
  refine aw_iald (f := (qo_pl qo)) dX6_writePixel_8 at_qoipl (vp_in_iff.mpr g8) ?_
  refine aw_iload_n dX6_writePixel_9 rfl ?_
  refine aw_icmp_ne (tgt := 24) dX6_writePixel_10 (by decide) (fun c10 => ?_) (fun c10 => ?_)
  · replace hE := fif hE c10
    refine aw_iload_n dX6_writePixel_24 rfl ?_
    refine aw_callSN dX6_writePixel_25  csX6_91 rfl (kF_X10_alphaOf _ _ a1) rfl (Nat.le_of_ble_eq_true rfl) (by decide) (by decide) (by decide) (by decide)  (fun r25 h25 n25 hp25 => ?_)
    obtain ⟨rfl, rfl, rfl⟩ := hp25
    refine aw_aload_n dX6_writePixel_28 rfl ?_
    refine aw_getf (v := .int (qo_last qo)) dX6_writePixel_29 flX6_78_5 at_qoi rfl ?_
    refine aw_callSN dX6_writePixel_32  csX6_91 rfl (kF_X10_alphaOf _ _ (qo_last qo)) rfl (Nat.le_of_ble_eq_true rfl) (by decide) (by decide) (by decide) (by decide)  (fun r32 h32 n32 hp32 => ?_)
    obtain ⟨rfl, rfl, rfl⟩ := hp32
    refine aw_icmp_eq (tgt := 53) dX6_writePixel_35 (by decide) (fun c35 => ?_) (fun c35 => ?_)
    · replace hE := fit hE c35
      refine aw_aload_n dX6_writePixel_53 rfl ?_
      refine aw_iload_n dX6_writePixel_54 rfl ?_
      refine aw_aload_n dX6_writePixel_55 rfl ?_
      refine aw_callV dX6_writePixel_56 at_qoi cvX6_162 rfl (kF_X6_writeMove m0 sh rr ww o y so sc pl qo pn bm tg px fa hb _ ho a1 (fon_ne hE hF)) rfl (Nat.le_of_ble_eq_true rfl) (by decide) (by decide) (by decide) (by decide) (fun _ _ _ hf => False.elim hf) (fun r56 h56 n56 hp56 => ?_)
      obtain ⟨z56, s56, e56, rfl, rfl, rfl⟩ := hp56
      replace hE := fon_ok e56 hE
      refine aw_if_ne (tgt := 93) dX6_writePixel_59 (by decide) (fun c59 => ?_) (fun c59 => ?_)
      · replace hE := fif hE c59
        exact aw_vret dX6_writePixel_93 rfl (Nat.zero_le _) (Nat.zero_le _) (Nat.zero_le _) (Nat.zero_le _) ⟨_, _, hE.symm, rfl, rfl, rfl⟩
      · replace hE := fit hE c59
        refine aw_aload_n dX6_writePixel_62 rfl ?_
        refine aw_sipush (v := 254) dX6_writePixel_63 (by decide) ?_
        refine aw_callV dX6_writePixel_66 (at_row ho) cvX6_117 rfl (kF_X1_add m0 sh rr ww o s56 so sc pl qo pn bm tg px fa hb _ ho 254 (fon_ne hE hF)) rfl (Nat.le_of_ble_eq_true rfl) (by decide) (by decide) (by decide) (by decide) (fun _ _ _ hf => False.elim hf) (fun r66 h66 n66 hp66 => ?_)
        obtain ⟨z66, s66, e66, rfl, rfl, rfl⟩ := hp66
        replace hE := fon_ok e66 hE
        refine aw_aload_n dX6_writePixel_69 rfl ?_
        refine aw_iload_n dX6_writePixel_70 rfl ?_
        refine aw_callSN dX6_writePixel_71  csX6_99 rfl (kF_X10_redOf _ _ a1) rfl (Nat.le_of_ble_eq_true rfl) (by decide) (by decide) (by decide) (by decide)  (fun r71 h71 n71 hp71 => ?_)
        obtain ⟨rfl, rfl, rfl⟩ := hp71
        refine aw_callV dX6_writePixel_74 (at_row ho) cvX6_117 rfl (kF_X1_add m0 sh rr ww o s66 so sc pl qo pn bm tg px fa hb _ ho (F_X10_redOf a1) (fon_ne hE hF)) rfl (Nat.le_of_ble_eq_true rfl) (by decide) (by decide) (by decide) (by decide) (fun _ _ _ hf => False.elim hf) (fun r74 h74 n74 hp74 => ?_)
        obtain ⟨z74, s74, e74, rfl, rfl, rfl⟩ := hp74
        replace hE := fon_ok e74 hE
        refine aw_aload_n dX6_writePixel_77 rfl ?_
        refine aw_iload_n dX6_writePixel_78 rfl ?_
        refine aw_callSN dX6_writePixel_79  csX6_102 rfl (kF_X10_greenOf _ _ a1) rfl (Nat.le_of_ble_eq_true rfl) (by decide) (by decide) (by decide) (by decide)  (fun r79 h79 n79 hp79 => ?_)
        obtain ⟨rfl, rfl, rfl⟩ := hp79
        refine aw_callV dX6_writePixel_82 (at_row ho) cvX6_117 rfl (kF_X1_add m0 sh rr ww o s74 so sc pl qo pn bm tg px fa hb _ ho (F_X10_greenOf a1) (fon_ne hE hF)) rfl (Nat.le_of_ble_eq_true rfl) (by decide) (by decide) (by decide) (by decide) (fun _ _ _ hf => False.elim hf) (fun r82 h82 n82 hp82 => ?_)
        obtain ⟨z82, s82, e82, rfl, rfl, rfl⟩ := hp82
        replace hE := fon_ok e82 hE
        refine aw_aload_n dX6_writePixel_85 rfl ?_
        refine aw_iload_n dX6_writePixel_86 rfl ?_
        refine aw_callSN dX6_writePixel_87  csX6_105 rfl (kF_X10_blueOf _ _ a1) rfl (Nat.le_of_ble_eq_true rfl) (by decide) (by decide) (by decide) (by decide)  (fun r87 h87 n87 hp87 => ?_)
        obtain ⟨rfl, rfl, rfl⟩ := hp87
        refine aw_callV dX6_writePixel_90 (at_row ho) cvX6_117 rfl (kF_X1_add m0 sh rr ww o s82 so sc pl qo pn bm tg px fa hb _ ho (F_X10_blueOf a1) (fon_ne hE hF)) rfl (Nat.le_of_ble_eq_true rfl) (by decide) (by decide) (by decide) (by decide) (fun _ _ _ hf => False.elim hf) (fun r90 h90 n90 hp90 => ?_)
        obtain ⟨z90, s90, e90, rfl, rfl, rfl⟩ := hp90
        replace hE := fon_ok e90 hE
        exact aw_vret dX6_writePixel_93 rfl (Nat.zero_le _) (Nat.zero_le _) (Nat.zero_le _) (Nat.zero_le _) ⟨_, _, hE.symm, rfl, rfl, rfl⟩
    · replace hE := fif hE c35
      refine aw_aload_n dX6_writePixel_38 rfl ?_
      refine aw_sipush (v := 255) dX6_writePixel_39 (by decide) ?_
      refine aw_callV dX6_writePixel_42 (at_row ho) cvX6_117 rfl (kF_X1_add m0 sh rr ww o y so sc pl qo pn bm tg px fa hb _ ho 255 (fon_ne hE hF)) rfl (Nat.le_of_ble_eq_true rfl) (by decide) (by decide) (by decide) (by decide) (fun _ _ _ hf => False.elim hf) (fun r42 h42 n42 hp42 => ?_)
      obtain ⟨z42, s42, e42, rfl, rfl, rfl⟩ := hp42
      replace hE := fon_ok e42 hE
      refine aw_aload_n dX6_writePixel_45 rfl ?_
      refine aw_iload_n dX6_writePixel_46 rfl ?_
      refine aw_callV dX6_writePixel_47 (at_row ho) cvX6_125 rfl (kF_X1_addHigh4 m0 sh rr ww o s42 so sc pl qo pn bm tg px fa hb _ ho a1 (fon_ne hE hF)) rfl (Nat.le_of_ble_eq_true rfl) (by decide) (by decide) (by decide) (by decide) (fun _ _ _ hf => False.elim hf) (fun r47 h47 n47 hp47 => ?_)
      obtain ⟨z47, s47, e47, rfl, rfl, rfl⟩ := hp47
      replace hE := fon_ok e47 hE
      refine aw_goto (tgt := 93) dX6_writePixel_50 (by decide) ?_
      exact aw_vret dX6_writePixel_93 rfl (Nat.zero_le _) (Nat.zero_le _) (Nat.zero_le _) (Nat.zero_le _) ⟨_, _, hE.symm, rfl, rfl, rfl⟩
  · replace hE := fit hE c10
    refine aw_aload_n dX6_writePixel_13 rfl ?_
    refine aw_iload_n dX6_writePixel_14 rfl ?_
    refine aw_callS dX6_writePixel_15  csX6_114 rfl (kF_X6_homeOf _ _ a1) rfl (Nat.le_of_ble_eq_true rfl) (by decide) (by decide) (by decide) (by decide) (fun _ _ _ hf => False.elim hf) (fun r15 h15 n15 hp15 => ?_)
    obtain ⟨rfl, rfl, rfl⟩ := hp15
    refine aw_callV dX6_writePixel_18 (at_row ho) cvX6_117 rfl (kF_X1_add m0 sh rr ww o y so sc pl qo pn bm tg px fa hb _ ho (F_X6_homeOf a1) (fon_ne hE hF)) rfl (Nat.le_of_ble_eq_true rfl) (by decide) (by decide) (by decide) (by decide) (fun _ _ _ hf => False.elim hf) (fun r18 h18 n18 hp18 => ?_)
    obtain ⟨z18, s18, e18, rfl, rfl, rfl⟩ := hp18
    replace hE := fon_ok e18 hE
    refine aw_goto (tgt := 93) dX6_writePixel_21 (by decide) ?_
    exact aw_vret dX6_writePixel_93 rfl (Nat.zero_le _) (Nat.zero_le _) (Nat.zero_le _) (Nat.zero_le _) ⟨_, _, hE.symm, rfl, rfl, rfl⟩
