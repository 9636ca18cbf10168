def P_X6_decode (m0 : Mnt) (sh : Nat → Nat) (rr : Nat → Ras) (r : Nat) (ww : Nat → Row) (so : Nat) (pl : Pal) (pn : Pnm) (bm : Bmp) (tg : Tga) (px : Pcx) (fa : A) (hb : aH) (n : Nat) (res : Out (Ras × Src × Qoi) Unit) : Option Value → aH → Nat → Prop := fun r1 h2 n2 => ∃ (a : Unit) (s : (Ras × Src × Qoi)), res = fok a s ∧ r1 = none ∧ h2 = HC m0 sh (va_up rr r s.1) ww so s.2.1 pl s.2.2 pn bm tg px fa hb ∧ n = n2
def X_X6_decode (m0 : Mnt) (sh : Nat → Nat) (rr : Nat → Ras) (r : Nat) (ww : Nat → Row) (so : Nat) (pl : Pal) (pn : Pnm) (bm : Bmp) (tg : Tga) (px : Pcx) (fa : A) (hb : aH) (n : Nat) (res : Out (Ras × Src × Qoi) Unit) : String → aH → Nat → Prop := fun E h2 n2 => ∃ s : (Ras × Src × Qoi), res = fex E s ∧ h2 = HC m0 sh (va_up rr r s.1) ww so s.2.1 pl s.2.2 pn bm tg px fa hb ∧ n = n2
abbrev Q_X6_decode_84 (m0 : Mnt) (sh : Nat → Nat) (rr : Nat → Ras) (r : Nat) (ww : Nat → Row) (so : Nat) (pl : Pal) (pn : Pnm) (bm : Bmp) (tg : Tga) (px : Pcx) (fa : A) (hb : aH) (n : Nat) (k : Int32 → Ras → Src → Qoi → Out (Ras × Src × Qoi) Unit) : Prop := ∀ (v8 : Int32) (x : Ras) (sc : Src) (qo : Qoi) (res : Out (Ras × Src × Qoi) Unit), k v8 x sc qo = res → res ≠ fno → AW (fun _ _ => True) mX6_decode (rmD 6 1 6) 0 0 (P_X6_decode m0 sh rr r ww so pl pn bm tg px fa hb n res) (X_X6_decode m0 sh rr r ww so pl pn bm tg px fa hb n res) 0 0 84 [(1, .ref 16), (8, .int v8)] [] (HC m0 sh (va_up rr r x) ww so sc pl qo pn bm tg px fa hb) n
def F_X6_decode_84 (sb : A) (k84 : Int32 → Ras → Src → Qoi → Out (Ras × Src × Qoi) Unit) (v8 : Int32) (x : Ras) (sc : Src) (qo : Qoi) : Out (Ras × Src × Qoi) Unit := if 7 ≤ v8 then (fon (F_X8_want 1 sc sb) (fun z104 s104 => fon (F_X8_wantEnd s104) (fun z108 s108 => fok () (x, s108, qo)) (fun E s108 => fex E (x, s108, qo))) (fun E s104 => fex E (x, s104, qo))) else (fon (F_X8_want 0 sc sb) (fun z93 s93 => k84 (v8 + 1) x s93 qo) (fun E s93 => fex E (x, s93, qo)))
set_option maxHeartbeats 1000000 in
set_option maxRecDepth 100000 in
theorem b_X6_decode_84 (m0 : Mnt) (sh : Nat → Nat) (rr : Nat → Ras) (r : Nat) (ww : Nat → Row) (so : Nat) (pl : Pal) (pn : Pnm) (bm : Bmp) (tg : Tga) (px : Pcx) (fa : A) (hb : aH) (n : Nat) (hr : isR r) (hso : isW so) (k84 : Int32 → Ras → Src → Qoi → Out (Ras × Src × Qoi) Unit) (hk84 : Q_X6_decode_84 m0 sh rr r ww so pl pn bm tg px fa hb n k84) : Q_X6_decode_84 m0 sh rr r ww so pl pn bm tg px fa hb n (F_X6_decode_84 (y_b (ww so)) k84) := by
  intro v8 x sc qo res hE hF
  unfold F_X6_decode_84 at hE
  refine aw_iload dX6_decode_84 rfl ?_
  refine aw_bipush (v := 7) dX6_decode_86 (by decide) ?_
  refine aw_icmp_ge (tgt := 102) dX6_decode_88 (by decide) (fun c88 => ?_) (fun c88 => ?_)
  · replace hE := fit hE c88
    refine aw_aload_n dX6_decode_102 rfl ?_
    refine aw_iconst (v := 1) dX6_decode_103 (by decide) ?_
    refine aw_callV dX6_decode_104 at_src cvX6_15 rfl (kF_X8_want m0 sh (va_up rr r x) ww so sc pl qo pn bm tg px fa hb _ hso 1 (fon_ne hE hF)) rfl (Nat.le_of_ble_eq_true rfl) (by decide) (by decide) (by decide) (by decide) (fun E h2 n2 hx => aw_out rfl (by decide) (by decide) (by obtain ⟨s104, e104, rfl, rfl⟩ := hx; exact ⟨_, (fon_ex e104 hE).symm, rfl, rfl⟩)) (fun r104 h104 n104 hp104 => ?_)
    obtain ⟨z104, s104, e104, rfl, rfl, rfl⟩ := hp104
    replace hE := fon_ok e104 hE
    refine aw_aload_n dX6_decode_107 rfl ?_
    refine aw_callV dX6_decode_108 at_src cvX6_50 rfl (kF_X8_wantEnd m0 sh (va_up rr r x) ww so s104 pl qo pn bm tg px fa hb _   (fon_ne hE hF)) rfl (Nat.le_of_ble_eq_true rfl) (by decide) (by decide) (by decide) (by decide) (fun E h2 n2 hx => aw_out rfl (by decide) (by decide) (by obtain ⟨s108, e108, rfl, rfl⟩ := hx; exact ⟨_, (fon_ex e108 hE).symm, rfl, rfl⟩)) (fun r108 h108 n108 hp108 => ?_)
    obtain ⟨z108, s108, e108, rfl, rfl, rfl⟩ := hp108
    replace hE := fon_ok e108 hE
    exact aw_vret dX6_decode_111 rfl (Nat.zero_le _) (Nat.zero_le _) (Nat.zero_le _) (Nat.zero_le _) ⟨_, _, hE.symm, rfl, rfl, rfl⟩
  · replace hE := fif hE c88
    refine aw_aload_n dX6_decode_91 rfl ?_
    refine aw_iconst (v := 0) dX6_decode_92 (by decide) ?_
    refine aw_callV dX6_decode_93 at_src cvX6_15 rfl (kF_X8_want m0 sh (va_up rr r x) ww so sc pl qo pn bm tg px fa hb _ hso 0 (fon_ne hE hF)) rfl (Nat.le_of_ble_eq_true rfl) (by decide) (by decide) (by decide) (by decide) (fun E h2 n2 hx => aw_out rfl (by decide) (by decide) (by obtain ⟨s93, e93, rfl, rfl⟩ := hx; exact ⟨_, (fon_ex e93 hE).symm, rfl, rfl⟩)) (fun r93 h93 n93 hp93 => ?_)
    obtain ⟨z93, s93, e93, rfl, rfl, rfl⟩ := hp93
    replace hE := fon_ok e93 hE
    refine aw_iinc (v := (v8 + 1)) (lv2 := [(8, _), (1, _)]) dX6_decode_96 rfl (incE (by decide)) (by decide) rfl ?_
    refine aw_goto (tgt := 84) dX6_decode_99 (by decide) ?_
    exact aw_lv _ (List.forall_mem_cons.mpr ⟨rfl, (List.forall_mem_cons.mpr ⟨rfl, fun _ h => absurd h List.not_mem_nil⟩)⟩) (hk84 (v8 + 1) x s93 qo _ hE hF)
def F_X6_decode (x : Ras) (sc : Src) (sb : A) (qo : Qoi) : Out (Ras × Src × Qoi) Unit := fon (F_X8_want 113 sc sb) (fun z3 s3 => fon (F_X8_want 111 s3 sb) (fun z9 s9 => fon (F_X8_want 105 s9 sb) (fun z15 s15 => fon (F_X8_want 102 s15 sb) (fun z21 s21 => fon (F_X6_readSide s21 sb) (fun z25 s25 => fon (F_X6_readSide s25 sb) (fun z36 s36 => fon (F_X8_lay z25 z36 (sc_pos s25) x s36) (fun z48 s48 => fon (F_X6_readChoice 3 4 s48.2 sb) (fun z55 s55 => fon (F_X6_readChoice 0 1 s55 sb) (fun z65 s65 => fon (F_X6_readChunks s48.1 s65 sb (z55, z65, (qo_f3 qo), (qo_last qo), (qo_pl qo))) (fun z75 s75 => lp (fun _ _ _ _ => fno) (F_X6_decode_84 sb) FU (0 : Int32) s75.1 s75.2.1 ((qo_f1 s75.2.2), (qo_f2 s75.2.2), z75, (qo_last s75.2.2), (qo_pl s75.2.2))) (fun E s75 => fex E (s75.1, s75.2.1, s75.2.2))) (fun E s65 => fex E (s48.1, s65, (z55, (qo_f2 qo), (qo_f3 qo), (qo_last qo), (qo_pl qo))))) (fun E s55 => fex E (s48.1, s55, qo))) (fun E s48 => fex E (s48.1, s48.2, qo))) (fun E s36 => fex E (x, s36, qo))) (fun E s25 => fex E (x, s25, qo))) (fun E s21 => fex E (x, s21, qo))) (fun E s15 => fex E (x, s15, qo))) (fun E s9 => fex E (x, s9, qo))) (fun E s3 => fex E (x, s3, qo))
set_option maxHeartbeats 1000000 in
set_option maxRecDepth 100000 in
theorem kF_X6_decode (m0 : Mnt) (sh : Nat → Nat) (rr : Nat → Ras) (r : Nat) (x : Ras) (ww : Nat → Row) (so : Nat) (sc : Src) (pl : Pal) (qo : Qoi) (pn : Pnm) (bm : Bmp) (tg : Tga) (px : Pcx) (fa : A) (hb : aH) (n : Nat) (hr : isR r) (hso : isW so)  (hF : F_X6_decode x sc (y_b (ww so)) qo ≠ fno) : AM mX6_decode 6 [.ref 21, .ref 16, .ref r] (HC m0 sh (va_up rr r x) ww so sc pl qo pn bm tg px fa hb) n 1 6 0 0 (P_X6_decode m0 sh rr r ww so pl pn bm tg px fa hb n (F_X6_decode x sc (y_b (ww so)) qo)) (X_X6_decode m0 sh rr r ww so pl pn bm tg px fa hb n (F_X6_decode x sc (y_b (ww so)) qo)) := by
  generalize hE : F_X6_decode x sc (y_b (ww so)) qo = res at hF ⊢
  refine aw_of (by decide +kernel) rfl (Nat.le_of_ble_eq_true rfl) ?_
  unfold F_X6_decode at hE
  refine aw_aload_n dX6_decode_0 rfl ?_
  refine aw_bipush (v := 113) dX6_decode_1 (by decide) ?_
  refine aw_callV dX6_decode_3 at_src cvX6_15 rfl (kF_X8_want m0 sh (va_up rr r x) ww so sc pl qo pn bm tg px fa hb _ hso 113 (fon_ne hE hF)) rfl (Nat.le_of_ble_eq_true rfl) (by decide) (by decide) (by decide) (by decide) (fun E h2 n2 hx => aw_out rfl (by decide) (by decide) (by obtain ⟨s3, e3, rfl, rfl⟩ := hx; exact ⟨_, (fon_ex e3 hE).symm, rfl, rfl⟩)) (fun r3 h3 n3 hp3 => ?_)
  obtain ⟨z3, s3, e3, rfl, rfl, rfl⟩ := hp3
  replace hE := fon_ok e3 hE
  refine aw_aload_n dX6_decode_6 rfl ?_
  refine aw_bipush (v := 111) dX6_decode_7 (by decide) ?_
  refine aw_callV dX6_decode_9 at_src cvX6_15 rfl (kF_X8_want m0 sh (va_up rr r x) ww so s3 pl qo pn bm tg px fa hb _ hso 111 (fon_ne hE hF)) rfl (Nat.le_of_ble_eq_true rfl) (by decide) (by decide) (by decide) (by decide) (fun E h2 n2 hx => aw_out rfl (by decide) (by decide) (by obtain ⟨s9, e9, rfl, rfl⟩ := hx; exact ⟨_, (fon_ex e9 hE).symm, rfl, rfl⟩)) (fun r9 h9 n9 hp9 => ?_)
  obtain ⟨z9, s9, e9, rfl, rfl, rfl⟩ := hp9
  replace hE := fon_ok e9 hE
  refine aw_aload_n dX6_decode_12 rfl ?_
  refine aw_bipush (v := 105) dX6_decode_13 (by decide) ?_
  refine aw_callV dX6_decode_15 at_src cvX6_15 rfl (kF_X8_want m0 sh (va_up rr r x) ww so s9 pl qo pn bm tg px fa hb _ hso 105 (fon_ne hE hF)) rfl (Nat.le_of_ble_eq_true rfl) (by decide) (by decide) (by decide) (by decide) (fun E h2 n2 hx => aw_out rfl (by decide) (by decide) (by obtain ⟨s15, e15, rfl, rfl⟩ := hx; exact ⟨_, (fon_ex e15 hE).symm, rfl, rfl⟩)) (fun r15 h15 n15 hp15 => ?_)
  obtain ⟨z15, s15, e15, rfl, rfl, rfl⟩ := hp15
  replace hE := fon_ok e15 hE
  refine aw_aload_n dX6_decode_18 rfl ?_
  refine aw_bipush (v := 102) dX6_decode_19 (by decide) ?_
  refine aw_callV dX6_decode_21 at_src cvX6_15 rfl (kF_X8_want m0 sh (va_up rr r x) ww so s15 pl qo pn bm tg px fa hb _ hso 102 (fon_ne hE hF)) rfl (Nat.le_of_ble_eq_true rfl) (by decide) (by decide) (by decide) (by decide) (fun E h2 n2 hx => aw_out rfl (by decide) (by decide) (by obtain ⟨s21, e21, rfl, rfl⟩ := hx; exact ⟨_, (fon_ex e21 hE).symm, rfl, rfl⟩)) (fun r21 h21 n21 hp21 => ?_)
  obtain ⟨z21, s21, e21, rfl, rfl, rfl⟩ := hp21
  replace hE := fon_ok e21 hE
  refine aw_aload_n dX6_decode_24 rfl ?_
  refine aw_callS dX6_decode_25  csX6_21 rfl (kF_X6_readSide m0 sh (va_up rr r x) ww so s21 pl qo pn bm tg px fa hb _ hso  (fon_ne hE hF)) rfl (Nat.le_of_ble_eq_true rfl) (by decide) (by decide) (by decide) (by decide) (fun E h2 n2 hx => aw_out rfl (by decide) (by decide) (by obtain ⟨s25, e25, rfl, rfl⟩ := hx; exact ⟨_, (fon_ex e25 hE).symm, rfl, rfl⟩)) (fun r25 h25 n25 hp25 => ?_)
  obtain ⟨z25, s25, e25, rfl, rfl, rfl⟩ := hp25
  replace hE := fon_ok e25 hE
  refine aw_lstore_n (lv2 := [(3, _), (0, _), (1, _), (2, _)]) dX6_decode_28 (by decide) rfl ?_
  refine aw_aload_n dX6_decode_29 rfl ?_
  refine aw_getf (v := .int (sc_pos s25)) dX6_decode_30 flX6_25_7 at_src rfl ?_
  refine aw_istore (lv2 := [(5, _), (3, _), (0, _), (1, _), (2, _)]) dX6_decode_33 (by decide) rfl ?_
  refine aw_aload_n dX6_decode_35 rfl ?_
  refine aw_callS dX6_decode_36  csX6_21 rfl (kF_X6_readSide m0 sh (va_up rr r x) ww so s25 pl qo pn bm tg px fa hb _ hso  (fon_ne hE hF)) rfl (Nat.le_of_ble_eq_true rfl) (by decide) (by decide) (by decide) (by decide) (fun E h2 n2 hx => aw_out rfl (by decide) (by decide) (by obtain ⟨s36, e36, rfl, rfl⟩ := hx; exact ⟨_, (fon_ex e36 hE).symm, rfl, rfl⟩)) (fun r36 h36 n36 hp36 => ?_)
  obtain ⟨z36, s36, e36, rfl, rfl, rfl⟩ := hp36
  replace hE := fon_ok e36 hE
  refine aw_lstore (lv2 := [(6, _), (5, _), (3, _), (0, _), (1, _), (2, _)]) dX6_decode_39 (by decide) rfl ?_
  refine aw_aload_n dX6_decode_41 rfl ?_
  refine aw_aload_n dX6_decode_42 rfl ?_
  refine aw_lload_n dX6_decode_43 rfl ?_
  refine aw_lload dX6_decode_44 rfl ?_
  refine aw_iload dX6_decode_46 rfl ?_
  refine aw_callV dX6_decode_48 at_src cvX6_29 rfl (kF_X8_lay m0 sh rr r x ww so s36 pl qo pn bm tg px fa hb _ hr z25 z36 (sc_pos s25) (fon_ne hE hF)) rfl (Nat.le_of_ble_eq_true rfl) (by decide) (by decide) (by decide) (by decide) (fun E h2 n2 hx => aw_out rfl (by decide) (by decide) (by obtain ⟨s48, e48, rfl, rfl⟩ := hx; exact ⟨_, (fon_ex e48 hE).symm, rfl, rfl⟩)) (fun r48 h48 n48 hp48 => ?_)
  obtain ⟨z48, s48, e48, rfl, rfl, rfl⟩ := hp48
  replace hE := fon_ok e48 hE
  refine aw_aload_n dX6_decode_51 rfl ?_
  refine aw_aload_n dX6_decode_52 rfl ?_
  refine aw_iconst (v := 3) dX6_decode_53 (by decide) ?_
  refine aw_iconst (v := 4) dX6_decode_54 (by decide) ?_
  refine aw_callS dX6_decode_55  csX6_33 rfl (kF_X6_readChoice m0 sh (va_up rr r s48.1) ww so s48.2 pl qo pn bm tg px fa hb _ hso 3 4 (fon_ne hE hF)) rfl (Nat.le_of_ble_eq_true rfl) (by decide) (by decide) (by decide) (by decide) (fun E h2 n2 hx => aw_out rfl (by decide) (by decide) (by obtain ⟨s55, e55, rfl, rfl⟩ := hx; exact ⟨_, (fon_ex e55 hE).symm, rfl, rfl⟩)) (fun r55 h55 n55 hp55 => ?_)
  obtain ⟨z55, s55, e55, rfl, rfl, rfl⟩ := hp55
  replace hE := fon_ok e55 hE
  refine aw_putf dX6_decode_58 ptX6_37_5 at_qoi (Nat.le_of_ble_eq_true rfl) ⟨rfl, rfl⟩ ?_
  refine aw_eqh (h2 := HC m0 sh (va_up rr r s48.1) ww so s55 pl (z55, (qo_f2 qo), (qo_f3 qo), (qo_last qo), (qo_pl qo)) pn bm tg px fa hb) up_qoi ?_
  refine aw_aload_n dX6_decode_61 rfl ?_
  refine aw_aload_n dX6_decode_62 rfl ?_
  refine aw_iconst (v := 0) dX6_decode_63 (by decide) ?_
  refine aw_iconst (v := 1) dX6_decode_64 (by decide) ?_
  refine aw_callS dX6_decode_65  csX6_33 rfl (kF_X6_readChoice m0 sh (va_up rr r s48.1) ww so s55 pl (z55, (qo_f2 qo), (qo_f3 qo), (qo_last qo), (qo_pl qo)) pn bm tg px fa hb _ hso 0 1 (fon_ne hE hF)) rfl (Nat.le_of_ble_eq_true rfl) (by decide) (by decide) (by decide) (by decide) (fun E h2 n2 hx => aw_out rfl (by decide) (by decide) (by obtain ⟨s65, e65, rfl, rfl⟩ := hx; exact ⟨_, (fon_ex e65 hE).symm, rfl, rfl⟩)) (fun r65 h65 n65 hp65 => ?_)
  obtain ⟨z65, s65, e65, rfl, rfl, rfl⟩ := hp65
  replace hE := fon_ok e65 hE
  refine aw_putf dX6_decode_68 ptX6_40_5 at_qoi (Nat.le_of_ble_eq_true rfl) ⟨rfl, rfl⟩ ?_
  refine aw_eqh (h2 := HC m0 sh (va_up rr r s48.1) ww so s65 pl (z55, z65, (qo_f3 qo), (qo_last qo), (qo_pl qo)) pn bm tg px fa hb) up_qoi ?_
  refine aw_aload_n dX6_decode_71 rfl ?_
  refine aw_aload_n dX6_decode_72 rfl ?_
  refine aw_aload_n dX6_decode_73 rfl ?_
  refine aw_aload_n dX6_decode_74 rfl ?_
  refine aw_callV dX6_decode_75 at_qoi cvX6_43 rfl (kF_X6_readChunks m0 sh rr r s48.1 ww so s65 pl (z55, z65, (qo_f3 qo), (qo_last qo), (qo_pl qo)) pn bm tg px fa hb _ hr hso  (fon_ne hE hF)) rfl (Nat.le_of_ble_eq_true rfl) (by decide) (by decide) (by decide) (by decide) (fun E h2 n2 hx => aw_out rfl (by decide) (by decide) (by obtain ⟨s75, e75, rfl, rfl⟩ := hx; exact ⟨_, (fon_ex e75 hE).symm, rfl, rfl⟩)) (fun r75 h75 n75 hp75 => ?_)
  obtain ⟨z75, s75, e75, rfl, rfl, rfl⟩ := hp75
  replace hE := fon_ok e75 hE
  refine aw_putf dX6_decode_78 ptX6_47_5 at_qoi (Nat.le_of_ble_eq_true rfl) ⟨rfl, rfl⟩ ?_
  refine aw_eqh (h2 := HC m0 sh (va_up rr r s75.1) ww so s75.2.1 pl ((qo_f1 s75.2.2), (qo_f2 s75.2.2), z75, (qo_last s75.2.2), (qo_pl s75.2.2)) pn bm tg px fa hb) up_qoi ?_
  refine aw_iconst (v := 0) dX6_decode_81 (by decide) ?_
  refine aw_istore (lv2 := [(8, _), (6, _), (5, _), (3, _), (0, _), (1, _), (2, _)]) dX6_decode_82 (by decide) rfl ?_
  exact aw_lv _ (List.forall_mem_cons.mpr ⟨rfl, (List.forall_mem_cons.mpr ⟨rfl, fun _ h => absurd h List.not_mem_nil⟩)⟩) (lp_ind (Q_X6_decode_84 m0 sh rr r ww so pl pn bm tg px fa hb n) (fun _ _ _ _ res hq hF => (hF hq.symm).elim) (fun k hk => b_X6_decode_84 m0 sh rr r ww so pl pn bm tg px fa hb n hr hso  k hk) FU (0 : Int32) s75.1 s75.2.1 ((qo_f1 s75.2.2), (qo_f2 s75.2.2), z75, (qo_last s75.2.2), (qo_pl s75.2.2)) _ hE hF)
