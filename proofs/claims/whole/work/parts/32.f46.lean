def P_X0_decode (m0 : Mnt) (sh : Nat → Nat) (rr : Nat → Ras) (r : Nat) (ww : Nat → Row) (so : Nat) (pl : Pal) (qo : Qoi) (pn : Pnm) (tg : Tga) (px : Pcx) (fa : A) (hb : aH) (n : Nat) (res : Out (Ras × Src × Bmp) Unit) : Option Value → aH → Nat → Prop := fun r1 h2 n2 => ∃ (a : Unit) (s : (Ras × Src × Bmp)), res = fok a s ∧ r1 = none ∧ h2 = HC m0 sh (va_up rr r s.1) ww so s.2.1 pl qo pn s.2.2 tg px fa hb ∧ n = n2
def X_X0_decode (m0 : Mnt) (sh : Nat → Nat) (rr : Nat → Ras) (r : Nat) (ww : Nat → Row) (so : Nat) (pl : Pal) (qo : Qoi) (pn : Pnm) (tg : Tga) (px : Pcx) (fa : A) (hb : aH) (n : Nat) (res : Out (Ras × Src × Bmp) Unit) : String → aH → Nat → Prop := fun E h2 n2 => ∃ s : (Ras × Src × Bmp), res = fex E s ∧ h2 = HC m0 sh (va_up rr r s.1) ww so s.2.1 pl qo pn s.2.2 tg px fa hb ∧ n = n2
abbrev Q_X0_decode_109 (m0 : Mnt) (sh : Nat → Nat) (rr : Nat → Ras) (r : Nat) (ww : Nat → Row) (so : Nat) (pl : Pal) (qo : Qoi) (pn : Pnm) (tg : Tga) (px : Pcx) (fa : A) (hb : aH) (n : Nat) (k : Ras → Src → Bmp → Out (Ras × Src × Bmp) Unit) : Prop := ∀ (x : Ras) (sc : Src) (bm : Bmp) (res : Out (Ras × Src × Bmp) Unit), k x sc bm = res → res ≠ fno → AW (fun _ _ => True) mX0_decode (rmD 7 1 6) 0 0 (P_X0_decode m0 sh rr r ww so pl qo pn tg px fa hb n res) (X_X0_decode m0 sh rr r ww so pl qo pn tg px fa hb n res) 0 0 109 [(0, .ref 24), (1, .ref 16)] [] (HC m0 sh (va_up rr r x) ww so sc pl qo pn bm tg px fa hb) n
def F_X0_decode_109 (sb : A)  (x : Ras) (sc : Src) (bm : Bmp) : Out (Ras × Src × Bmp) Unit := fon (F_X8_wantEnd sc) (fun z110 s110 => fok () (x, s110, ((bm_bits bm), (bm_comp bm), (bm_used bm), (bm_top bm), (bm_bits bm), (bm_comp bm), (bm_used bm), (bm_packed bm), (bm_column bm), (bm_up bm), (bm_col bm)))) (fun E s110 => fex E (x, s110, bm))
set_option maxHeartbeats 1000000 in
set_option maxRecDepth 100000 in
theorem b_X0_decode_109 (m0 : Mnt) (sh : Nat → Nat) (rr : Nat → Ras) (r : Nat) (ww : Nat → Row) (so : Nat) (pl : Pal) (qo : Qoi) (pn : Pnm) (tg : Tga) (px : Pcx) (fa : A) (hb : aH) (n : Nat) (hr : isR r) (hso : isW so)  : Q_X0_decode_109 m0 sh rr r ww so pl qo pn tg px fa hb n (F_X0_decode_109 (y_b (ww so))) := by
  intro x sc bm res hE hF
  unfold F_X0_decode_109 at hE
  refine aw_aload_n dX0_decode_109 rfl ?_
  refine aw_callV dX0_decode_110 at_src cvX0_69 rfl (kF_X8_wantEnd m0 sh (va_up rr r x) ww so sc pl qo pn bm tg px fa hb _   (fon_ne hE hF)) rfl (Nat.le_of_ble_eq_true rfl) (by decide) (by decide) (by decide) (by decide) (fun E h2 n2 hx => aw_out rfl (by decide) (by decide) (by obtain ⟨s110, e110, rfl, rfl⟩ := hx; exact ⟨_, (fon_ex e110 hE).symm, rfl, rfl⟩)) (fun r110 h110 n110 hp110 => ?_)
  obtain ⟨z110, s110, e110, rfl, rfl, rfl⟩ := hp110
  replace hE := fon_ok e110 hE
  refine aw_aload_n dX0_decode_113 rfl ?_
  refine aw_aload_n dX0_decode_114 rfl ?_
  refine aw_getf (v := .int (bm_bits bm)) dX0_decode_115 flX0_72_0 at_bmp rfl ?_
  refine aw_putf dX0_decode_118 ptX0_75_0 at_bmp (Nat.le_of_ble_eq_true rfl) ⟨rfl, rfl⟩ ?_
  refine aw_eqh (h2 := HC m0 sh (va_up rr r x) ww so s110 pl qo pn ((bm_bits bm), (bm_f2 bm), (bm_f3 bm), (bm_top bm), (bm_bits bm), (bm_comp bm), (bm_used bm), (bm_packed bm), (bm_column bm), (bm_up bm), (bm_col bm)) tg px fa hb) up_bmp ?_
  refine aw_aload_n dX0_decode_121 rfl ?_
  refine aw_aload_n dX0_decode_122 rfl ?_
  refine aw_getf (v := .int (bm_comp bm)) dX0_decode_123 flX0_60_0 at_bmp rfl ?_
  refine aw_putf dX0_decode_126 ptX0_78_0 at_bmp (Nat.le_of_ble_eq_true rfl) ⟨rfl, rfl⟩ ?_
  refine aw_eqh (h2 := HC m0 sh (va_up rr r x) ww so s110 pl qo pn ((bm_bits bm), (bm_comp bm), (bm_f3 bm), (bm_top bm), (bm_bits bm), (bm_comp bm), (bm_used bm), (bm_packed bm), (bm_column bm), (bm_up bm), (bm_col bm)) tg px fa hb) up_bmp ?_
  refine aw_aload_n dX0_decode_129 rfl ?_
  refine aw_aload_n dX0_decode_130 rfl ?_
  refine aw_getf (v := .int (bm_used bm)) dX0_decode_131 flX0_81_0 at_bmp rfl ?_
  refine aw_putf dX0_decode_134 ptX0_84_0 at_bmp (Nat.le_of_ble_eq_true rfl) ⟨rfl, rfl⟩ ?_
  refine aw_eqh (h2 := HC m0 sh (va_up rr r x) ww so s110 pl qo pn ((bm_bits bm), (bm_comp bm), (bm_used bm), (bm_top bm), (bm_bits bm), (bm_comp bm), (bm_used bm), (bm_packed bm), (bm_column bm), (bm_up bm), (bm_col bm)) tg px fa hb) up_bmp ?_
  exact aw_vret dX0_decode_137 rfl (Nat.zero_le _) (Nat.zero_le _) (Nat.zero_le _) (Nat.zero_le _) ⟨_, _, hE.symm, rfl, rfl, rfl⟩
def F_X0_decode (x : Ras) (sc : Src) (sb : A) (bm : Bmp) : Out (Ras × Src × Bmp) Unit := fon (F_X8_want 66 sc sb) (fun z3 s3 => fon (F_X8_want 77 s3 sb) (fun z9 s9 => fon (F_X8_wantLow4 (sc_size s9) s9 sb) (fun z17 s17 => fon (F_X8_wantLow4 0 s17 sb) (fun z22 s22 => fon (F_X8_low4 s22 sb) (fun z26 s26 => fon (F_X8_wantLow4 40 s26 sb) (fun z33 s33 => fon (F_X0_readSize x s33 sb bm) (fun z39 s39 => fon (F_X0_readDepth s39.2.1 sb s39.2.2) (fun z44 s44 => fon (F_X8_low4 s44.1 sb) (fun z48 s48 => fon (F_X8_pass 8 s48 sb) (fun z56 s56 => fon (F_X0_readUsed s56 sb s44.2) (fun z61 s61 => fon (F_X8_pass 4 s61.1 sb) (fun z66 s66 => fon (F_X0_askLayout z26 z48 s66 s61.2) (fun z74 s74 => fon (F_X0_readColours s74 sb s61.2) (fun z79 s79 => if (bm_comp s79.2) = 0 then (fon (F_X0_readRows s39.1 ((sc_size s79.1), z26, (sc_ft s79.1), (sc_fp s79.1)) sb s79.2) (fun z97 s97 => F_X0_decode_109 sb s97.1 s97.2.1 s97.2.2) (fun E s97 => fex E (s97.1, s97.2.1, s97.2.2))) else (fon (F_X0_readPairs s39.1 ((sc_size s79.1), z26, (sc_ft s79.1), (sc_fp s79.1)) sb s79.2) (fun z106 s106 => F_X0_decode_109 sb s106.1 s106.2.1 s106.2.2) (fun E s106 => fex E (s106.1, s106.2.1, s106.2.2)))) (fun E s79 => fex E (s39.1, s79.1, s79.2))) (fun E s74 => fex E (s39.1, s74, s61.2))) (fun E s66 => fex E (s39.1, s66, s61.2))) (fun E s61 => fex E (s39.1, s61.1, s61.2))) (fun E s56 => fex E (s39.1, s56, s44.2))) (fun E s48 => fex E (s39.1, s48, s44.2))) (fun E s44 => fex E (s39.1, s44.1, s44.2))) (fun E s39 => fex E (s39.1, s39.2.1, s39.2.2))) (fun E s33 => fex E (x, s33, bm))) (fun E s26 => fex E (x, s26, bm))) (fun E s22 => fex E (x, s22, bm))) (fun E s17 => fex E (x, s17, bm))) (fun E s9 => fex E (x, s9, bm))) (fun E s3 => fex E (x, s3, bm))
set_option maxHeartbeats 1000000 in
set_option maxRecDepth 100000 in
theorem kF_X0_decode (m0 : Mnt) (sh : Nat → Nat) (rr : Nat → Ras) (r : Nat) (x : Ras) (ww : Nat → Row) (so : Nat) (sc : Src) (pl : Pal) (qo : Qoi) (pn : Pnm) (bm : Bmp) (tg : Tga) (px : Pcx) (fa : A) (hb : aH) (n : Nat) (hr : isR r) (hso : isW so)  (hF : F_X0_decode x sc (y_b (ww so)) bm ≠ fno) : AM mX0_decode 7 [.ref 24, .ref 16, .ref r] (HC m0 sh (va_up rr r x) ww so sc pl qo pn bm tg px fa hb) n 1 6 0 0 (P_X0_decode m0 sh rr r ww so pl qo pn tg px fa hb n (F_X0_decode x sc (y_b (ww so)) bm)) (X_X0_decode m0 sh rr r ww so pl qo pn tg px fa hb n (F_X0_decode x sc (y_b (ww so)) bm)) := by
  generalize hE : F_X0_decode x sc (y_b (ww so)) bm = res at hF ⊢
  refine aw_of (by decide +kernel) rfl (Nat.le_of_ble_eq_true rfl) ?_
  unfold F_X0_decode at hE
  refine aw_aload_n dX0_decode_0 rfl ?_
  refine aw_bipush (v := 66) dX0_decode_1 (by decide) ?_
  refine aw_callV dX0_decode_3 at_src cvX0_19 rfl (kF_X8_want m0 sh (va_up rr r x) ww so sc pl qo pn bm tg px fa hb _ hso 66 (fon_ne hE hF)) rfl (Nat.le_of_ble_eq_true rfl) (by decide) (by decide) (by decide) (by decide) (fun E h2 n2 hx => aw_out rfl (by decide) (by decide) (by obtain ⟨s3, e3, rfl, rfl⟩ := hx; exact ⟨_, (fon_ex e3 hE).symm, rfl, rfl⟩)) (fun r3 h3 n3 hp3 => ?_)
  obtain ⟨z3, s3, e3, rfl, rfl, rfl⟩ := hp3
  replace hE := fon_ok e3 hE
  refine aw_aload_n dX0_decode_6 rfl ?_
  refine aw_bipush (v := 77) dX0_decode_7 (by decide) ?_
  refine aw_callV dX0_decode_9 at_src cvX0_19 rfl (kF_X8_want m0 sh (va_up rr r x) ww so s3 pl qo pn bm tg px fa hb _ hso 77 (fon_ne hE hF)) rfl (Nat.le_of_ble_eq_true rfl) (by decide) (by decide) (by decide) (by decide) (fun E h2 n2 hx => aw_out rfl (by decide) (by decide) (by obtain ⟨s9, e9, rfl, rfl⟩ := hx; exact ⟨_, (fon_ex e9 hE).symm, rfl, rfl⟩)) (fun r9 h9 n9 hp9 => ?_)
  obtain ⟨z9, s9, e9, rfl, rfl, rfl⟩ := hp9
  replace hE := fon_ok e9 hE
  refine aw_aload_n dX0_decode_12 rfl ?_
  refine aw_aload_n dX0_decode_13 rfl ?_
  refine aw_getf (v := .int (sc_size s9)) dX0_decode_14 flX0_25_7 at_src rfl ?_
  refine aw_callV dX0_decode_17 at_src cvX0_29 rfl (kF_X8_wantLow4 m0 sh (va_up rr r x) ww so s9 pl qo pn bm tg px fa hb _ hso (sc_size s9) (fon_ne hE hF)) rfl (Nat.le_of_ble_eq_true rfl) (by decide) (by decide) (by decide) (by decide) (fun E h2 n2 hx => aw_out rfl (by decide) (by decide) (by obtain ⟨s17, e17, rfl, rfl⟩ := hx; exact ⟨_, (fon_ex e17 hE).symm, rfl, rfl⟩)) (fun r17 h17 n17 hp17 => ?_)
  obtain ⟨z17, s17, e17, rfl, rfl, rfl⟩ := hp17
  replace hE := fon_ok e17 hE
  refine aw_aload_n dX0_decode_20 rfl ?_
  refine aw_iconst (v := 0) dX0_decode_21 (by decide) ?_
  refine aw_callV dX0_decode_22 at_src cvX0_29 rfl (kF_X8_wantLow4 m0 sh (va_up rr r x) ww so s17 pl qo pn bm tg px fa hb _ hso 0 (fon_ne hE hF)) rfl (Nat.le_of_ble_eq_true rfl) (by decide) (by decide) (by decide) (by decide) (fun E h2 n2 hx => aw_out rfl (by decide) (by decide) (by obtain ⟨s22, e22, rfl, rfl⟩ := hx; exact ⟨_, (fon_ex e22 hE).symm, rfl, rfl⟩)) (fun r22 h22 n22 hp22 => ?_)
  obtain ⟨z22, s22, e22, rfl, rfl, rfl⟩ := hp22
  replace hE := fon_ok e22 hE
  refine aw_aload_n dX0_decode_25 rfl ?_
  refine aw_callV dX0_decode_26 at_src cvX0_32 rfl (kF_X8_low4 m0 sh (va_up rr r x) ww so s22 pl qo pn bm tg px fa hb _ hso  (fon_ne hE hF)) rfl (Nat.le_of_ble_eq_true rfl) (by decide) (by decide) (by decide) (by decide) (fun E h2 n2 hx => aw_out rfl (by decide) (by decide) (by obtain ⟨s26, e26, rfl, rfl⟩ := hx; exact ⟨_, (fon_ex e26 hE).symm, rfl, rfl⟩)) (fun r26 h26 n26 hp26 => ?_)
  obtain ⟨z26, s26, e26, rfl, rfl, rfl⟩ := hp26
  replace hE := fon_ok e26 hE
  refine aw_istore_n (lv2 := [(3, _), (0, _), (1, _), (2, _)]) dX0_decode_29 (by decide) rfl ?_
  refine aw_aload_n dX0_decode_30 rfl ?_
  refine aw_bipush (v := 40) dX0_decode_31 (by decide) ?_
  refine aw_callV dX0_decode_33 at_src cvX0_29 rfl (kF_X8_wantLow4 m0 sh (va_up rr r x) ww so s26 pl qo pn bm tg px fa hb _ hso 40 (fon_ne hE hF)) rfl (Nat.le_of_ble_eq_true rfl) (by decide) (by decide) (by decide) (by decide) (fun E h2 n2 hx => aw_out rfl (by decide) (by decide) (by obtain ⟨s33, e33, rfl, rfl⟩ := hx; exact ⟨_, (fon_ex e33 hE).symm, rfl, rfl⟩)) (fun r33 h33 n33 hp33 => ?_)
  obtain ⟨z33, s33, e33, rfl, rfl, rfl⟩ := hp33
  replace hE := fon_ok e33 hE
  refine aw_aload_n dX0_decode_36 rfl ?_
  refine aw_aload_n dX0_decode_37 rfl ?_
  refine aw_aload_n dX0_decode_38 rfl ?_
  refine aw_callV dX0_decode_39 at_bmp cvX0_36 rfl (kF_X0_readSize m0 sh rr r x ww so s33 pl qo pn bm tg px fa hb _ hr hso  (fon_ne hE hF)) rfl (Nat.le_of_ble_eq_true rfl) (by decide) (by decide) (by decide) (by decide) (fun E h2 n2 hx => aw_out rfl (by decide) (by decide) (by obtain ⟨s39, e39, rfl, rfl⟩ := hx; exact ⟨_, (fon_ex e39 hE).symm, rfl, rfl⟩)) (fun r39 h39 n39 hp39 => ?_)
  obtain ⟨z39, s39, e39, rfl, rfl, rfl⟩ := hp39
  replace hE := fon_ok e39 hE
  refine aw_aload_n dX0_decode_42 rfl ?_
  refine aw_aload_n dX0_decode_43 rfl ?_
  refine aw_callV dX0_decode_44 at_bmp cvX0_40 rfl (kF_X0_readDepth m0 sh (va_up rr r s39.1) ww so s39.2.1 pl qo pn s39.2.2 tg px fa hb _ hso  (fon_ne hE hF)) rfl (Nat.le_of_ble_eq_true rfl) (by decide) (by decide) (by decide) (by decide) (fun E h2 n2 hx => aw_out rfl (by decide) (by decide) (by obtain ⟨s44, e44, rfl, rfl⟩ := hx; exact ⟨_, (fon_ex e44 hE).symm, rfl, rfl⟩)) (fun r44 h44 n44 hp44 => ?_)
  obtain ⟨z44, s44, e44, rfl, rfl, rfl⟩ := hp44
  replace hE := fon_ok e44 hE
  refine aw_aload_n dX0_decode_47 rfl ?_
  refine aw_callV dX0_decode_48 at_src cvX0_32 rfl (kF_X8_low4 m0 sh (va_up rr r s39.1) ww so s44.1 pl qo pn s44.2 tg px fa hb _ hso  (fon_ne hE hF)) rfl (Nat.le_of_ble_eq_true rfl) (by decide) (by decide) (by decide) (by decide) (fun E h2 n2 hx => aw_out rfl (by decide) (by decide) (by obtain ⟨s48, e48, rfl, rfl⟩ := hx; exact ⟨_, (fon_ex e48 hE).symm, rfl, rfl⟩)) (fun r48 h48 n48 hp48 => ?_)
  obtain ⟨z48, s48, e48, rfl, rfl, rfl⟩ := hp48
  replace hE := fon_ok e48 hE
  refine aw_istore (lv2 := [(4, _), (3, _), (0, _), (1, _), (2, _)]) dX0_decode_51 (by decide) rfl ?_
  refine aw_aload_n dX0_decode_53 rfl ?_
  refine aw_bipush (v := 8) dX0_decode_54 (by decide) ?_
  refine aw_callV dX0_decode_56 at_src cvX0_44 rfl (kF_X8_pass m0 sh (va_up rr r s39.1) ww so s48 pl qo pn s44.2 tg px fa hb _ hso 8 (fon_ne hE hF)) rfl (Nat.le_of_ble_eq_true rfl) (by decide) (by decide) (by decide) (by decide) (fun E h2 n2 hx => aw_out rfl (by decide) (by decide) (by obtain ⟨s56, e56, rfl, rfl⟩ := hx; exact ⟨_, (fon_ex e56 hE).symm, rfl, rfl⟩)) (fun r56 h56 n56 hp56 => ?_)
  obtain ⟨z56, s56, e56, rfl, rfl, rfl⟩ := hp56
  replace hE := fon_ok e56 hE
  refine aw_aload_n dX0_decode_59 rfl ?_
  refine aw_aload_n dX0_decode_60 rfl ?_
  refine aw_callV dX0_decode_61 at_bmp cvX0_47 rfl (kF_X0_readUsed m0 sh (va_up rr r s39.1) ww so s56 pl qo pn s44.2 tg px fa hb _ hso  (fon_ne hE hF)) rfl (Nat.le_of_ble_eq_true rfl) (by decide) (by decide) (by decide) (by decide) (fun E h2 n2 hx => aw_out rfl (by decide) (by decide) (by obtain ⟨s61, e61, rfl, rfl⟩ := hx; exact ⟨_, (fon_ex e61 hE).symm, rfl, rfl⟩)) (fun r61 h61 n61 hp61 => ?_)
  obtain ⟨z61, s61, e61, rfl, rfl, rfl⟩ := hp61
  replace hE := fon_ok e61 hE
  refine aw_aload_n dX0_decode_64 rfl ?_
  refine aw_iconst (v := 4) dX0_decode_65 (by decide) ?_
  refine aw_callV dX0_decode_66 at_src cvX0_44 rfl (kF_X8_pass m0 sh (va_up rr r s39.1) ww so s61.1 pl qo pn s61.2 tg px fa hb _ hso 4 (fon_ne hE hF)) rfl (Nat.le_of_ble_eq_true rfl) (by decide) (by decide) (by decide) (by decide) (fun E h2 n2 hx => aw_out rfl (by decide) (by decide) (by obtain ⟨s66, e66, rfl, rfl⟩ := hx; exact ⟨_, (fon_ex e66 hE).symm, rfl, rfl⟩)) (fun r66 h66 n66 hp66 => ?_)
  obtain ⟨z66, s66, e66, rfl, rfl, rfl⟩ := hp66
  replace hE := fon_ok e66 hE
  refine aw_aload_n dX0_decode_69 rfl ?_
  refine aw_aload_n dX0_decode_70 rfl ?_
  refine aw_iload_n dX0_decode_71 rfl ?_
  refine aw_iload dX0_decode_72 rfl ?_
  refine aw_callV dX0_decode_74 at_bmp cvX0_50 rfl (kF_X0_askLayout m0 sh (va_up rr r s39.1) ww so s66 pl qo pn s61.2 tg px fa hb _  z26 z48 (fon_ne hE hF)) rfl (Nat.le_of_ble_eq_true rfl) (by decide) (by decide) (by decide) (by decide) (fun E h2 n2 hx => aw_out rfl (by decide) (by decide) (by obtain ⟨s74, e74, rfl, rfl⟩ := hx; exact ⟨_, (fon_ex e74 hE).symm, rfl, rfl⟩)) (fun r74 h74 n74 hp74 => ?_)
  obtain ⟨z74, s74, e74, rfl, rfl, rfl⟩ := hp74
  replace hE := fon_ok e74 hE
  refine aw_aload_n dX0_decode_77 rfl ?_
  refine aw_aload_n dX0_decode_78 rfl ?_
  refine aw_callV dX0_decode_79 at_bmp cvX0_54 rfl (kF_X0_readColours m0 sh (va_up rr r s39.1) ww so s74 pl qo pn s61.2 tg px fa hb _ hso  (fon_ne hE hF)) rfl (Nat.le_of_ble_eq_true rfl) (by decide) (by decide) (by decide) (by decide) (fun E h2 n2 hx => aw_out rfl (by decide) (by decide) (by obtain ⟨s79, e79, rfl, rfl⟩ := hx; exact ⟨_, (fon_ex e79 hE).symm, rfl, rfl⟩)) (fun r79 h79 n79 hp79 => ?_)
  obtain ⟨z79, s79, e79, rfl, rfl, rfl⟩ := hp79
  replace hE := fon_ok e79 hE
  refine aw_aload_n dX0_decode_82 rfl ?_
  refine aw_iload_n dX0_decode_83 rfl ?_
  refine aw_putf dX0_decode_84 ptX0_57_7 at_src (Nat.le_of_ble_eq_true rfl) ⟨rfl, rfl⟩ ?_
  refine aw_eqh (h2 := HC m0 sh (va_up rr r s39.1) ww so ((sc_size s79.1), z26, (sc_ft s79.1), (sc_fp s79.1)) pl qo pn s79.2 tg px fa hb) up_src ?_
  refine aw_aload_n dX0_decode_87 rfl ?_
  refine aw_getf (v := .int (bm_comp s79.2)) dX0_decode_88 flX0_60_0 at_bmp rfl ?_
  refine aw_if_ne (tgt := 103) dX0_decode_91 (by decide) (fun c91 => ?_) (fun c91 => ?_)
  · replace hE := fif hE c91
    refine aw_aload_n dX0_decode_103 rfl ?_
    refine aw_aload_n dX0_decode_104 rfl ?_
    refine aw_aload_n dX0_decode_105 rfl ?_
    refine aw_callV dX0_decode_106 at_bmp cvX0_66 rfl (kF_X0_readPairs m0 sh rr r s39.1 ww so ((sc_size s79.1), z26, (sc_ft s79.1), (sc_fp s79.1)) pl qo pn s79.2 tg px fa hb _ hr hso  (fon_ne hE hF)) rfl (Nat.le_of_ble_eq_true rfl) (by decide) (by decide) (by decide) (by decide) (fun E h2 n2 hx => aw_out rfl (by decide) (by decide) (by obtain ⟨s106, e106, rfl, rfl⟩ := hx; exact ⟨_, (fon_ex e106 hE).symm, rfl, rfl⟩)) (fun r106 h106 n106 hp106 => ?_)
    obtain ⟨z106, s106, e106, rfl, rfl, rfl⟩ := hp106
    replace hE := fon_ok e106 hE
    exact aw_lv _ (List.forall_mem_cons.mpr ⟨rfl, (List.forall_mem_cons.mpr ⟨rfl, fun _ h => absurd h List.not_mem_nil⟩)⟩) (b_X0_decode_109 m0 sh rr r ww so pl qo pn tg px fa hb n hr hso  s106.1 s106.2.1 s106.2.2 _ hE hF)
  · replace hE := fit hE c91
    refine aw_aload_n dX0_decode_94 rfl ?_
    refine aw_aload_n dX0_decode_95 rfl ?_
    refine aw_aload_n dX0_decode_96 rfl ?_
    refine aw_callV dX0_decode_97 at_bmp cvX0_63 rfl (kF_X0_readRows m0 sh rr r s39.1 ww so ((sc_size s79.1), z26, (sc_ft s79.1), (sc_fp s79.1)) pl qo pn s79.2 tg px fa hb _ hr hso  (fon_ne hE hF)) rfl (Nat.le_of_ble_eq_true rfl) (by decide) (by decide) (by decide) (by decide) (fun E h2 n2 hx => aw_out rfl (by decide) (by decide) (by obtain ⟨s97, e97, rfl, rfl⟩ := hx; exact ⟨_, (fon_ex e97 hE).symm, rfl, rfl⟩)) (fun r97 h97 n97 hp97 => ?_)
    obtain ⟨z97, s97, e97, rfl, rfl, rfl⟩ := hp97
    replace hE := fon_ok e97 hE
    refine aw_goto (tgt := 109) dX0_decode_100 (by decide) ?_
    exact aw_lv _ (List.forall_mem_cons.mpr ⟨rfl, (List.forall_mem_cons.mpr ⟨rfl, fun _ h => absurd h List.not_mem_nil⟩)⟩) (b_X0_decode_109 m0 sh rr r ww so pl qo pn tg px fa hb n hr hso  s97.1 s97.2.1 s97.2.2 _ hE hF)
