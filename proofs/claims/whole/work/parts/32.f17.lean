def P_X0_readSize (m0 : Mnt) (sh : Nat → Nat) (rr : Nat → Ras) (r : Nat) (ww : Nat → Row) (so : Nat) (pl : Pal) (qo : Qoi) (pn : Pnm) (tg : Tga) (px : Pcx) (fa : A) (hb : aH) (n : Nat) (res : Out (Ras × Src × Bmp) Unit) : Option Value → aH → Nat → Prop := fun r1 h2 n2 => ∃ (a : Unit) (s : (Ras × Src × Bmp)), res = fok a s ∧ r1 = none ∧ h2 = HC m0 sh (va_up rr r s.1) ww so s.2.1 pl qo pn s.2.2 tg px fa hb ∧ n = n2
def X_X0_readSize (m0 : Mnt) (sh : Nat → Nat) (rr : Nat → Ras) (r : Nat) (ww : Nat → Row) (so : Nat) (pl : Pal) (qo : Qoi) (pn : Pnm) (tg : Tga) (px : Pcx) (fa : A) (hb : aH) (n : Nat) (res : Out (Ras × Src × Bmp) Unit) : String → aH → Nat → Prop := fun E h2 n2 => ∃ s : (Ras × Src × Bmp), res = fex E s ∧ h2 = HC m0 sh (va_up rr r s.1) ww so s.2.1 pl qo pn s.2.2 tg px fa hb ∧ n = n2
abbrev Q_X0_readSize_61 (m0 : Mnt) (sh : Nat → Nat) (rr : Nat → Ras) (r : Nat) (ww : Nat → Row) (so : Nat) (pl : Pal) (qo : Qoi) (pn : Pnm) (tg : Tga) (px : Pcx) (fa : A) (hb : aH) (n : Nat) (k : Int32 → Int32 → Int64 → Int32 → Ras → Src → Bmp → Out (Ras × Src × Bmp) Unit) : Prop := ∀ (v3 : Int32) (v4 : Int32) (v5 : Int64) (t0 : Int32) (x : Ras) (sc : Src) (bm : Bmp) (res : Out (Ras × Src × Bmp) Unit), k v3 v4 v5 t0 x sc bm = res → res ≠ fno → AW (fun _ _ => True) mX0_readSize (rmD 6 1 6) 0 0 (P_X0_readSize m0 sh rr r ww so pl qo pn tg px fa hb n res) (X_X0_readSize m0 sh rr r ww so pl qo pn tg px fa hb n res) 0 0 61 [(0, .ref 24), (1, .ref 16), (2, .ref r), (3, .int v3), (4, .int v4), (5, .long v5)] [.int t0, .ref 24] (HC m0 sh (va_up rr r x) ww so sc pl qo pn bm tg px fa hb) n
abbrev Q_X0_readSize_84 (m0 : Mnt) (sh : Nat → Nat) (rr : Nat → Ras) (r : Nat) (ww : Nat → Row) (so : Nat) (pl : Pal) (qo : Qoi) (pn : Pnm) (tg : Tga) (px : Pcx) (fa : A) (hb : aH) (n : Nat) (k : Int32 → Int64 → Int64 → Ras → Src → Bmp → Out (Ras × Src × Bmp) Unit) : Prop := ∀ (v3 : Int32) (t0 : Int64) (t1 : Int64) (x : Ras) (sc : Src) (bm : Bmp) (res : Out (Ras × Src × Bmp) Unit), k v3 t0 t1 x sc bm = res → res ≠ fno → AW (fun _ _ => True) mX0_readSize (rmD 6 1 6) 0 0 (P_X0_readSize m0 sh rr r ww so pl qo pn tg px fa hb n res) (X_X0_readSize m0 sh rr r ww so pl qo pn tg px fa hb n res) 0 0 84 [(3, .int v3)] [.long t0, .long t1, .ref r, .ref 16] (HC m0 sh (va_up rr r x) ww so sc pl qo pn bm tg px fa hb) n
def F_X0_readSize_84 (sb : A)  (v3 : Int32) (t0 : Int64) (t1 : Int64) (x : Ras) (sc : Src) (bm : Bmp) : Out (Ras × Src × Bmp) Unit := fon (F_X8_lay t1 t0 v3 x sc) (fun z85 s85 => fok () (s85.1, s85.2, bm)) (fun E s85 => fex E (s85.1, s85.2, bm))
set_option maxHeartbeats 1000000 in
set_option maxRecDepth 100000 in
theorem b_X0_readSize_84 (m0 : Mnt) (sh : Nat → Nat) (rr : Nat → Ras) (r : Nat) (ww : Nat → Row) (so : Nat) (pl : Pal) (qo : Qoi) (pn : Pnm) (tg : Tga) (px : Pcx) (fa : A) (hb : aH) (n : Nat) (hr : isR r) (hso : isW so)  : Q_X0_readSize_84 m0 sh rr r ww so pl qo pn tg px fa hb n (F_X0_readSize_84 (y_b (ww so))) := by
  intro v3 t0 t1 x sc bm res hE hF
  unfold F_X0_readSize_84 at hE
  refine aw_iload_n dX0_readSize_84 rfl ?_
  refine aw_callV dX0_readSize_85 at_src cvX0_95 rfl (kF_X8_lay m0 sh rr r x ww so sc pl qo pn bm tg px fa hb _ hr t1 t0 v3 (fon_ne hE hF)) rfl (Nat.le_of_ble_eq_true rfl) (by decide) (by decide) (by decide) (by decide) (fun E h2 n2 hx => aw_out rfl (by decide) (by decide) (by obtain ⟨s85, e85, rfl, rfl⟩ := hx; exact ⟨_, (fon_ex e85 hE).symm, rfl, rfl⟩)) (fun r85 h85 n85 hp85 => ?_)
  obtain ⟨z85, s85, e85, rfl, rfl, rfl⟩ := hp85
  replace hE := fon_ok e85 hE
  exact aw_vret dX0_readSize_88 rfl (Nat.zero_le _) (Nat.zero_le _) (Nat.zero_le _) (Nat.zero_le _) ⟨_, _, hE.symm, rfl, rfl, rfl⟩
def F_X0_readSize_61 (sb : A)  (v3 : Int32) (v4 : Int32) (v5 : Int64) (t0 : Int32) (x : Ras) (sc : Src) (bm : Bmp) : Out (Ras × Src × Bmp) Unit := if isB t0 then (if t0 = 0 then (F_X0_readSize_84 sb v3 v5 ((v4).toInt64) x sc ((bm_f1 bm), (bm_f2 bm), (bm_f3 bm), t0, (bm_bits bm), (bm_comp bm), (bm_used bm), (bm_packed bm), (bm_column bm), (bm_up bm), (bm_col bm))) else (F_X0_readSize_84 sb v3 (-v5) ((v4).toInt64) x sc ((bm_f1 bm), (bm_f2 bm), (bm_f3 bm), t0, (bm_bits bm), (bm_comp bm), (bm_used bm), (bm_packed bm), (bm_column bm), (bm_up bm), (bm_col bm)))) else fno
set_option maxHeartbeats 1000000 in
set_option maxRecDepth 100000 in
theorem b_X0_readSize_61 (m0 : Mnt) (sh : Nat → Nat) (rr : Nat → Ras) (r : Nat) (ww : Nat → Row) (so : Nat) (pl : Pal) (qo : Qoi) (pn : Pnm) (tg : Tga) (px : Pcx) (fa : A) (hb : aH) (n : Nat) (hr : isR r) (hso : isW so)  : Q_X0_readSize_61 m0 sh rr r ww so pl qo pn tg px fa hb n (F_X0_readSize_61 (y_b (ww so))) := by
  intro v3 v4 v5 t0 x sc bm res hE hF
  unfold F_X0_readSize_61 at hE
  obtain ⟨g61, hE⟩ := fgd hE hF
  refine aw_putf dX0_readSize_61 ptX0_91_0 at_bmp (Nat.le_of_ble_eq_true rfl) (vokB g61) ?_
  refine aw_eqh (h2 := HC m0 sh (va_up rr r x) ww so sc pl qo pn ((bm_f1 bm), (bm_f2 bm), (bm_f3 bm), t0, (bm_bits bm), (bm_comp bm), (bm_used bm), (bm_packed bm), (bm_column bm), (bm_up bm), (bm_col bm)) tg px fa hb) up_bmp ?_
  refine aw_aload_n dX0_readSize_64 rfl ?_
  refine aw_aload_n dX0_readSize_65 rfl ?_
  refine aw_iload dX0_readSize_66 rfl ?_
  refine aw_i2l dX0_readSize_68 ?_
  refine aw_aload_n dX0_readSize_69 rfl ?_
  refine aw_getf (v := .int t0) dX0_readSize_70 flX0_91_0 at_bmp rfl ?_
  refine aw_if_eq (tgt := 82) dX0_readSize_73 (by decide) (fun c73 => ?_) (fun c73 => ?_)
  · replace hE := fit hE c73
    refine aw_lload dX0_readSize_82 rfl ?_
    exact aw_lv _ (List.forall_mem_cons.mpr ⟨rfl, fun _ h => absurd h List.not_mem_nil⟩) (b_X0_readSize_84 m0 sh rr r ww so pl qo pn tg px fa hb n hr hso  v3 v5 ((v4).toInt64) x sc ((bm_f1 bm), (bm_f2 bm), (bm_f3 bm), t0, (bm_bits bm), (bm_comp bm), (bm_used bm), (bm_packed bm), (bm_column bm), (bm_up bm), (bm_col bm)) _ hE hF)
  · replace hE := fif hE c73
    refine aw_lload dX0_readSize_76 rfl ?_
    refine aw_lneg dX0_readSize_78 ?_
    refine aw_goto (tgt := 84) dX0_readSize_79 (by decide) ?_
    exact aw_lv _ (List.forall_mem_cons.mpr ⟨rfl, fun _ h => absurd h List.not_mem_nil⟩) (b_X0_readSize_84 m0 sh rr r ww so pl qo pn tg px fa hb n hr hso  v3 (-v5) ((v4).toInt64) x sc ((bm_f1 bm), (bm_f2 bm), (bm_f3 bm), t0, (bm_bits bm), (bm_comp bm), (bm_used bm), (bm_packed bm), (bm_column bm), (bm_up bm), (bm_col bm)) _ hE hF)
def F_X0_readSize (x : Ras) (sc : Src) (sb : A) (bm : Bmp) : Out (Ras × Src × Bmp) Unit := fon (F_X8_low4 sc sb) (fun z6 s6 => if 1 ≤ z6 then (fon (F_X8_low4 s6 sb) (fun z29 s29 => if (lg_cmp (z29).toInt64 0) = 0 then (fon (F_X8_refuse 2 (sc_pos s6) s29) (fun _ _ => fno) (fun E s45 => fex E (x, s45, bm))) else (if 0 ≤ (lg_cmp (z29).toInt64 0) then (F_X0_readSize_61 sb (sc_pos s6) z6 ((z29).toInt64) (0 : Int32) x s29 bm) else (F_X0_readSize_61 sb (sc_pos s6) z6 ((z29).toInt64) (1 : Int32) x s29 bm))) (fun E s29 => fex E (x, s29, bm))) else (fon (F_X8_refuse 2 (sc_pos sc) s6) (fun _ _ => fno) (fun E s20 => fex E (x, s20, bm)))) (fun E s6 => fex E (x, s6, bm))
set_option maxHeartbeats 1000000 in
set_option maxRecDepth 100000 in
theorem kF_X0_readSize (m0 : Mnt) (sh : Nat → Nat) (rr : Nat → Ras) (r : Nat) (x : Ras) (ww : Nat → Row) (so : Nat) (sc : Src) (pl : Pal) (qo : Qoi) (pn : Pnm) (bm : Bmp) (tg : Tga) (px : Pcx) (fa : A) (hb : aH) (n : Nat) (hr : isR r) (hso : isW so)  (hF : F_X0_readSize x sc (y_b (ww so)) bm ≠ fno) : AM mX0_readSize 6 [.ref 24, .ref 16, .ref r] (HC m0 sh (va_up rr r x) ww so sc pl qo pn bm tg px fa hb) n 1 6 0 0 (P_X0_readSize m0 sh rr r ww so pl qo pn tg px fa hb n (F_X0_readSize x sc (y_b (ww so)) bm)) (X_X0_readSize m0 sh rr r ww so pl qo pn tg px fa hb n (F_X0_readSize x sc (y_b (ww so)) bm)) := by
  generalize hE : F_X0_readSize x sc (y_b (ww so)) bm = res at hF ⊢
  refine aw_of (by decide +kernel) rfl (Nat.le_of_ble_eq_true rfl) ?_
  unfold F_X0_readSize at hE
  refine aw_aload_n dX0_readSize_0 rfl ?_
  refine aw_getf (v := .int (sc_pos sc)) dX0_readSize_1 flX0_57_7 at_src rfl ?_
  refine aw_istore_n (lv2 := [(3, _), (0, _), (1, _), (2, _)]) dX0_readSize_4 (by decide) rfl ?_
  refine aw_aload_n dX0_readSize_5 rfl ?_
  refine aw_callV dX0_readSize_6 at_src cvX0_32 rfl (kF_X8_low4 m0 sh (va_up rr r x) ww so sc pl qo pn bm tg px fa hb _ hso  (fon_ne hE hF)) rfl (Nat.le_of_ble_eq_true rfl) (by decide) (by decide) (by decide) (by decide) (fun E h2 n2 hx => aw_out rfl (by decide) (by decide) (by obtain ⟨s6, e6, rfl, rfl⟩ := hx; exact ⟨_, (fon_ex e6 hE).symm, rfl, rfl⟩)) (fun r6 h6 n6 hp6 => ?_)
  obtain ⟨z6, s6, e6, rfl, rfl, rfl⟩ := hp6
  replace hE := fon_ok e6 hE
  refine aw_istore (lv2 := [(4, _), (3, _), (0, _), (1, _), (2, _)]) dX0_readSize_9 (by decide) rfl ?_
  refine aw_iload dX0_readSize_11 rfl ?_
  refine aw_iconst (v := 1) dX0_readSize_13 (by decide) ?_
  refine aw_icmp_ge (tgt := 23) dX0_readSize_14 (by decide) (fun c14 => ?_) (fun c14 => ?_)
  · replace hE := fit hE c14
    refine aw_aload_n dX0_readSize_23 rfl ?_
    refine aw_getf (v := .int (sc_pos s6)) dX0_readSize_24 flX0_57_7 at_src rfl ?_
    refine aw_istore_n (lv2 := [(3, _), (4, _), (0, _), (1, _), (2, _)]) dX0_readSize_27 (by decide) rfl ?_
    refine aw_aload_n dX0_readSize_28 rfl ?_
    refine aw_callV dX0_readSize_29 at_src cvX0_32 rfl (kF_X8_low4 m0 sh (va_up rr r x) ww so s6 pl qo pn bm tg px fa hb _ hso  (fon_ne hE hF)) rfl (Nat.le_of_ble_eq_true rfl) (by decide) (by decide) (by decide) (by decide) (fun E h2 n2 hx => aw_out rfl (by decide) (by decide) (by obtain ⟨s29, e29, rfl, rfl⟩ := hx; exact ⟨_, (fon_ex e29 hE).symm, rfl, rfl⟩)) (fun r29 h29 n29 hp29 => ?_)
    obtain ⟨z29, s29, e29, rfl, rfl, rfl⟩ := hp29
    replace hE := fon_ok e29 hE
    refine aw_i2l dX0_readSize_32 ?_
    refine aw_lstore (lv2 := [(5, _), (3, _), (4, _), (0, _), (1, _), (2, _)]) dX0_readSize_33 (by decide) rfl ?_
    refine aw_lload dX0_readSize_35 rfl ?_
    refine aw_lconst (v := 0) dX0_readSize_37 (by decide) ?_
    refine aw_lcmp dX0_readSize_38 ?_
    refine aw_if_ne (tgt := 48) dX0_readSize_39 (by decide) (fun c39 => ?_) (fun c39 => ?_)
    · replace hE := fif hE c39
      refine aw_aload_n dX0_readSize_48 rfl ?_
      refine aw_lload dX0_readSize_49 rfl ?_
      refine aw_lconst (v := 0) dX0_readSize_51 (by decide) ?_
      refine aw_lcmp dX0_readSize_52 ?_
      refine aw_if_ge (tgt := 60) dX0_readSize_53 (by decide) (fun c53 => ?_) (fun c53 => ?_)
      · replace hE := fit hE c53
        refine aw_iconst (v := 0) dX0_readSize_60 (by decide) ?_
        exact aw_lv _ (List.forall_mem_cons.mpr ⟨rfl, (List.forall_mem_cons.mpr ⟨rfl, (List.forall_mem_cons.mpr ⟨rfl, (List.forall_mem_cons.mpr ⟨rfl, (List.forall_mem_cons.mpr ⟨rfl, (List.forall_mem_cons.mpr ⟨rfl, fun _ h => absurd h List.not_mem_nil⟩)⟩)⟩)⟩)⟩)⟩) (b_X0_readSize_61 m0 sh rr r ww so pl qo pn tg px fa hb n hr hso  (sc_pos s6) z6 ((z29).toInt64) (0 : Int32) x s29 bm _ hE hF)
      · replace hE := fif hE c53
        refine aw_iconst (v := 1) dX0_readSize_56 (by decide) ?_
        refine aw_goto (tgt := 61) dX0_readSize_57 (by decide) ?_
        exact aw_lv _ (List.forall_mem_cons.mpr ⟨rfl, (List.forall_mem_cons.mpr ⟨rfl, (List.forall_mem_cons.mpr ⟨rfl, (List.forall_mem_cons.mpr ⟨rfl, (List.forall_mem_cons.mpr ⟨rfl, (List.forall_mem_cons.mpr ⟨rfl, fun _ h => absurd h List.not_mem_nil⟩)⟩)⟩)⟩)⟩)⟩) (b_X0_readSize_61 m0 sh rr r ww so pl qo pn tg px fa hb n hr hso  (sc_pos s6) z6 ((z29).toInt64) (1 : Int32) x s29 bm _ hE hF)
    · replace hE := fit hE c39
      refine aw_aload_n dX0_readSize_42 rfl ?_
      refine aw_iconst (v := 2) dX0_readSize_43 (by decide) ?_
      refine aw_iload_n dX0_readSize_44 rfl ?_
      refine aw_callV dX0_readSize_45 at_src cvX0_87 rfl (kF_X8_refuse m0 sh (va_up rr r x) ww so s29 pl qo pn bm tg px fa hb _  2 (sc_pos s6) (fon_ne hE hF)) rfl (Nat.le_of_ble_eq_true rfl) (by decide) (by decide) (by decide) (by decide) (fun E h2 n2 hx => aw_out rfl (by decide) (by decide) (by obtain ⟨s45, e45, rfl, rfl⟩ := hx; exact ⟨_, (fon_ex e45 hE).symm, rfl, rfl⟩)) (fun r45 h45 n45 hp45 => ?_)
      obtain ⟨z45, s45, e45, rfl, rfl, rfl⟩ := hp45
      exact (hF (fon_ok e45 hE).symm).elim
  · replace hE := fif hE c14
    refine aw_aload_n dX0_readSize_17 rfl ?_
    refine aw_iconst (v := 2) dX0_readSize_18 (by decide) ?_
    refine aw_iload_n dX0_readSize_19 rfl ?_
    refine aw_callV dX0_readSize_20 at_src cvX0_87 rfl (kF_X8_refuse m0 sh (va_up rr r x) ww so s6 pl qo pn bm tg px fa hb _  2 (sc_pos sc) (fon_ne hE hF)) rfl (Nat.le_of_ble_eq_true rfl) (by decide) (by decide) (by decide) (by decide) (fun E h2 n2 hx => aw_out rfl (by decide) (by decide) (by obtain ⟨s20, e20, rfl, rfl⟩ := hx; exact ⟨_, (fon_ex e20 hE).symm, rfl, rfl⟩)) (fun r20 h20 n20 hp20 => ?_)
    obtain ⟨z20, s20, e20, rfl, rfl, rfl⟩ := hp20
    exact (hF (fon_ok e20 hE).symm).elim
def P_X0_readDepth (m0 : Mnt) (sh : Nat → Nat) (rr : Nat → Ras) (ww : Nat → Row) (so : Nat) (pl : Pal) (qo : Qoi) (pn : Pnm) (tg : Tga) (px : Pcx) (fa : A) (hb : aH) (n : Nat) (res : Out (Src × Bmp) Unit) : Option Value → aH → Nat → Prop := fun r1 h2 n2 => ∃ (a : Unit) (s : (Src × Bmp)), res = fok a s ∧ r1 = none ∧ h2 = HC m0 sh rr ww so s.1 pl qo pn s.2 tg px fa hb ∧ n = n2
def X_X0_readDepth (m0 : Mnt) (sh : Nat → Nat) (rr : Nat → Ras) (ww : Nat → Row) (so : Nat) (pl : Pal) (qo : Qoi) (pn : Pnm) (tg : Tga) (px : Pcx) (fa : A) (hb : aH) (n : Nat) (res : Out (Src × Bmp) Unit) : String → aH → Nat → Prop := fun E h2 n2 => ∃ s : (Src × Bmp), res = fex E s ∧ h2 = HC m0 sh rr ww so s.1 pl qo pn s.2 tg px fa hb ∧ n = n2
abbrev Q_X0_readDepth_90 (m0 : Mnt) (sh : Nat → Nat) (rr : Nat → Ras) (ww : Nat → Row) (so : Nat) (pl : Pal) (qo : Qoi) (pn : Pnm) (tg : Tga) (px : Pcx) (fa : A) (hb : aH) (n : Nat) (k : Src → Bmp → Out (Src × Bmp) Unit) : Prop := ∀ (sc : Src) (bm : Bmp) (res : Out (Src × Bmp) Unit), k sc bm = res → res ≠ fno → AW (fun _ _ => True) mX0_readDepth (rmD 6 1 6) 0 0 (P_X0_readDepth m0 sh rr ww so pl qo pn tg px fa hb n res) (X_X0_readDepth m0 sh rr ww so pl qo pn tg px fa hb n res) 0 0 90 [(0, .ref 24), (1, .ref 16)] [] (HC m0 sh rr ww so sc pl qo pn bm tg px fa hb) n
abbrev Q_X0_readDepth_120 (m0 : Mnt) (sh : Nat → Nat) (rr : Nat → Ras) (ww : Nat → Row) (so : Nat) (pl : Pal) (qo : Qoi) (pn : Pnm) (tg : Tga) (px : Pcx) (fa : A) (hb : aH) (n : Nat) (k : Int32 → Src → Bmp → Out (Src × Bmp) Unit) : Prop := ∀ (v2 : Int32) (sc : Src) (bm : Bmp) (res : Out (Src × Bmp) Unit), k v2 sc bm = res → res ≠ fno → AW (fun _ _ => True) mX0_readDepth (rmD 6 1 6) 0 0 (P_X0_readDepth m0 sh rr ww so pl qo pn tg px fa hb n res) (X_X0_readDepth m0 sh rr ww so pl qo pn tg px fa hb n res) 0 0 120 [(0, .ref 24), (1, .ref 16), (2, .int v2)] [] (HC m0 sh rr ww so sc pl qo pn bm tg px fa hb) n
abbrev Q_X0_readDepth_136 (m0 : Mnt) (sh : Nat → Nat) (rr : Nat → Ras) (ww : Nat → Row) (so : Nat) (pl : Pal) (qo : Qoi) (pn : Pnm) (tg : Tga) (px : Pcx) (fa : A) (hb : aH) (n : Nat) (k : Int32 → Src → Bmp → Out (Src × Bmp) Unit) : Prop := ∀ (v2 : Int32) (sc : Src) (bm : Bmp) (res : Out (Src × Bmp) Unit), k v2 sc bm = res → res ≠ fno → AW (fun _ _ => True) mX0_readDepth (rmD 6 1 6) 0 0 (P_X0_readDepth m0 sh rr ww so pl qo pn tg px fa hb n res) (X_X0_readDepth m0 sh rr ww so pl qo pn tg px fa hb n res) 0 0 136 [(0, .ref 24), (1, .ref 16), (2, .int v2)] [] (HC m0 sh rr ww so sc pl qo pn bm tg px fa hb) n
abbrev Q_X0_readDepth_140 (m0 : Mnt) (sh : Nat → Nat) (rr : Nat → Ras) (ww : Nat → Row) (so : Nat) (pl : Pal) (qo : Qoi) (pn : Pnm) (tg : Tga) (px : Pcx) (fa : A) (hb : aH) (n : Nat) (k : Int32 → Src → Bmp → Out (Src × Bmp) Unit) : Prop := ∀ (v2 : Int32) (sc : Src) (bm : Bmp) (res : Out (Src × Bmp) Unit), k v2 sc bm = res → res ≠ fno → AW (fun _ _ => True) mX0_readDepth (rmD 6 1 6) 0 0 (P_X0_readDepth m0 sh rr ww so pl qo pn tg px fa hb n res) (X_X0_readDepth m0 sh rr ww so pl qo pn tg px fa hb n res) 0 0 140 [(0, .ref 24), (1, .ref 16), (2, .int v2)] [] (HC m0 sh rr ww so sc pl qo pn bm tg px fa hb) n
abbrev Q_X0_readDepth_141 (m0 : Mnt) (sh : Nat → Nat) (rr : Nat → Ras) (ww : Nat → Row) (so : Nat) (pl : Pal) (qo : Qoi) (pn : Pnm) (tg : Tga) (px : Pcx) (fa : A) (hb : aH) (n : Nat) (k : Int32 → Int32 → Src → Bmp → Out (Src × Bmp) Unit) : Prop := ∀ (v2 : Int32) (t0 : Int32) (sc : Src) (bm : Bmp) (res : Out (Src × Bmp) Unit), k v2 t0 sc bm = res → res ≠ fno → AW (fun _ _ => True) mX0_readDepth (rmD 6 1 6) 0 0 (P_X0_readDepth m0 sh rr ww so pl qo pn tg px fa hb n res) (X_X0_readDepth m0 sh rr ww so pl qo pn tg px fa hb n res) 0 0 141 [(0, .ref 24), (1, .ref 16), (2, .int v2)] [.int t0] (HC m0 sh rr ww so sc pl qo pn bm tg px fa hb) n
abbrev Q_X0_readDepth_160 (m0 : Mnt) (sh : Nat → Nat) (rr : Nat → Ras) (ww : Nat → Row) (so : Nat) (pl : Pal) (qo : Qoi) (pn : Pnm) (tg : Tga) (px : Pcx) (fa : A) (hb : aH) (n : Nat) (k : Int32 → Src → Bmp → Out (Src × Bmp) Unit) : Prop := ∀ (v2 : Int32) (sc : Src) (bm : Bmp) (res : Out (Src × Bmp) Unit), k v2 sc bm = res → res ≠ fno → AW (fun _ _ => True) mX0_readDepth (rmD 6 1 6) 0 0 (P_X0_readDepth m0 sh rr ww so pl qo pn tg px fa hb n res) (X_X0_readDepth m0 sh rr ww so pl qo pn tg px fa hb n res) 0 0 160 [(1, .ref 16), (2, .int v2)] [] (HC m0 sh rr ww so sc pl qo pn bm tg px fa hb) n
def F_X0_readDepth_160 (sb : A)  (v2 : Int32) (sc : Src) (bm : Bmp) : Out (Src × Bmp) Unit := fon (F_X8_refuse 2 v2 sc) (fun _ _ => fno) (fun E s163 => fex E (s163, bm))
set_option maxHeartbeats 1000000 in
set_option maxRecDepth 100000 in
theorem b_X0_readDepth_160 (m0 : Mnt) (sh : Nat → Nat) (rr : Nat → Ras) (ww : Nat → Row) (so : Nat) (pl : Pal) (qo : Qoi) (pn : Pnm) (tg : Tga) (px : Pcx) (fa : A) (hb : aH) (n : Nat) (hso : isW so)  : Q_X0_readDepth_160 m0 sh rr ww so pl qo pn tg px fa hb n (F_X0_readDepth_160 (y_b (ww so))) := by
  intro v2 sc bm res hE hF
  unfold F_X0_readDepth_160 at hE
  refine aw_aload_n dX0_readDepth_160 rfl ?_
  refine aw_iconst (v := 2) dX0_readDepth_161 (by decide) ?_
  refine aw_iload_n dX0_readDepth_162 rfl ?_
  refine aw_callV dX0_readDepth_163 at_src cvX0_87 rfl (kF_X8_refuse m0 sh rr ww so sc pl qo pn bm tg px fa hb _  2 v2 (fon_ne hE hF)) rfl (Nat.le_of_ble_eq_true rfl) (by decide) (by decide) (by decide) (by decide) (fun E h2 n2 hx => aw_out rfl (by decide) (by decide) (by obtain ⟨s163, e163, rfl, rfl⟩ := hx; exact ⟨_, (fon_ex e163 hE).symm, rfl, rfl⟩)) (fun r163 h163 n163 hp163 => ?_)
  obtain ⟨z163, s163, e163, rfl, rfl, rfl⟩ := hp163
  exact (hF (fon_ok e163 hE).symm).elim
def F_X0_readDepth_141 (sb : A)  (v2 : Int32) (t0 : Int32) (sc : Src) (bm : Bmp) : Out (Src × Bmp) Unit := if (bm_comp bm) = 0 then (fok () (sc, bm)) else (if t0 = 0 then (F_X0_readDepth_160 sb v2 sc bm) else (if (bm_top bm) = 0 then (fok () (sc, bm)) else (F_X0_readDepth_160 sb v2 sc bm)))
set_option maxHeartbeats 1000000 in
set_option maxRecDepth 100000 in
theorem b_X0_readDepth_141 (m0 : Mnt) (sh : Nat → Nat) (rr : Nat → Ras) (ww : Nat → Row) (so : Nat) (pl : Pal) (qo : Qoi) (pn : Pnm) (tg : Tga) (px : Pcx) (fa : A) (hb : aH) (n : Nat) (hso : isW so)  : Q_X0_readDepth_141 m0 sh rr ww so pl qo pn tg px fa hb n (F_X0_readDepth_141 (y_b (ww so))) := by
  intro v2 t0 sc bm res hE hF
  unfold F_X0_readDepth_141 at hE
  refine aw_istore_n (lv2 := [(3, _), (0, _), (1, _), (2, _)]) dX0_readDepth_141 (by decide) rfl ?_
  refine aw_aload_n dX0_readDepth_142 rfl ?_
  refine aw_getf (v := .int (bm_comp bm)) dX0_readDepth_143 flX0_60_0 at_bmp rfl ?_
  refine aw_if_eq (tgt := 166) dX0_readDepth_146 (by decide) (fun c146 => ?_) (fun c146 => ?_)
  · replace hE := fit hE c146
    exact aw_vret dX0_readDepth_166 rfl (Nat.zero_le _) (Nat.zero_le _) (Nat.zero_le _) (Nat.zero_le _) ⟨_, _, hE.symm, rfl, rfl, rfl⟩
  · replace hE := fif hE c146
    refine aw_iload_n dX0_readDepth_149 rfl ?_
    refine aw_if_eq (tgt := 160) dX0_readDepth_150 (by decide) (fun c150 => ?_) (fun c150 => ?_)
    · replace hE := fit hE c150
      exact aw_lv _ (List.forall_mem_cons.mpr ⟨rfl, (List.forall_mem_cons.mpr ⟨rfl, fun _ h => absurd h List.not_mem_nil⟩)⟩) (b_X0_readDepth_160 m0 sh rr ww so pl qo pn tg px fa hb n hso  v2 sc bm _ hE hF)
    · replace hE := fif hE c150
      refine aw_aload_n dX0_readDepth_153 rfl ?_
      refine aw_getf (v := .int (bm_top bm)) dX0_readDepth_154 flX0_91_0 at_bmp rfl ?_
      refine aw_if_eq (tgt := 166) dX0_readDepth_157 (by decide) (fun c157 => ?_) (fun c157 => ?_)
      · replace hE := fit hE c157
        exact aw_vret dX0_readDepth_166 rfl (Nat.zero_le _) (Nat.zero_le _) (Nat.zero_le _) (Nat.zero_le _) ⟨_, _, hE.symm, rfl, rfl, rfl⟩
      · replace hE := fif hE c157
        exact aw_lv _ (List.forall_mem_cons.mpr ⟨rfl, (List.forall_mem_cons.mpr ⟨rfl, fun _ h => absurd h List.not_mem_nil⟩)⟩) (b_X0_readDepth_160 m0 sh rr ww so pl qo pn tg px fa hb n hso  v2 sc bm _ hE hF)
def F_X0_readDepth_140 (sb : A)  (v2 : Int32) (sc : Src) (bm : Bmp) : Out (Src × Bmp) Unit := F_X0_readDepth_141 sb v2 (0 : Int32) sc bm
set_option maxHeartbeats 1000000 in
set_option maxRecDepth 100000 in
theorem b_X0_readDepth_140 (m0 : Mnt) (sh : Nat → Nat) (rr : Nat → Ras) (ww : Nat → Row) (so : Nat) (pl : Pal) (qo : Qoi) (pn : Pnm) (tg : Tga) (px : Pcx) (fa : A) (hb : aH) (n : Nat) (hso : isW so)  : Q_X0_readDepth_140 m0 sh rr ww so pl qo pn tg px fa hb n (F_X0_readDepth_140 (y_b (ww so))) := by
  intro v2 sc bm res hE hF
  unfold F_X0_readDepth_140 at hE
  refine aw_iconst (v := 0) dX0_readDepth_140 (by decide) ?_
  exact aw_lv _ (List.forall_mem_cons.mpr ⟨rfl, (List.forall_mem_cons.mpr ⟨rfl, (List.forall_mem_cons.mpr ⟨rfl, fun _ h => absurd h List.not_mem_nil⟩)⟩)⟩) (b_X0_readDepth_141 m0 sh rr ww so pl qo pn tg px fa hb n hso  v2 (0 : Int32) sc bm _ hE hF)
def F_X0_readDepth_136 (sb : A)  (v2 : Int32) (sc : Src) (bm : Bmp) : Out (Src × Bmp) Unit := F_X0_readDepth_141 sb v2 (1 : Int32) sc bm
set_option maxHeartbeats 1000000 in
set_option maxRecDepth 100000 in
theorem b_X0_readDepth_136 (m0 : Mnt) (sh : Nat → Nat) (rr : Nat → Ras) (ww : Nat → Row) (so : Nat) (pl : Pal) (qo : Qoi) (pn : Pnm) (tg : Tga) (px : Pcx) (fa : A) (hb : aH) (n : Nat) (hso : isW so)  : Q_X0_readDepth_136 m0 sh rr ww so pl qo pn tg px fa hb n (F_X0_readDepth_136 (y_b (ww so))) := by
  intro v2 sc bm res hE hF
  unfold F_X0_readDepth_136 at hE
  refine aw_iconst (v := 1) dX0_readDepth_136 (by decide) ?_
  refine aw_goto (tgt := 141) dX0_readDepth_137 (by decide) ?_
  exact aw_lv _ (List.forall_mem_cons.mpr ⟨rfl, (List.forall_mem_cons.mpr ⟨rfl, (List.forall_mem_cons.mpr ⟨rfl, fun _ h => absurd h List.not_mem_nil⟩)⟩)⟩) (b_X0_readDepth_141 m0 sh rr ww so pl qo pn tg px fa hb n hso  v2 (1 : Int32) sc bm _ hE hF)
def F_X0_readDepth_120 (sb : A)  (v2 : Int32) (sc : Src) (bm : Bmp) : Out (Src × Bmp) Unit := if (bm_comp bm) = 2 then (if (bm_bits bm) = 4 then (F_X0_readDepth_136 sb v2 sc bm) else (F_X0_readDepth_140 sb v2 sc bm)) else (F_X0_readDepth_140 sb v2 sc bm)
set_option maxHeartbeats 1000000 in
set_option maxRecDepth 100000 in
theorem b_X0_readDepth_120 (m0 : Mnt) (sh : Nat → Nat) (rr : Nat → Ras) (ww : Nat → Row) (so : Nat) (pl : Pal) (qo : Qoi) (pn : Pnm) (tg : Tga) (px : Pcx) (fa : A) (hb : aH) (n : Nat) (hso : isW so)  : Q_X0_readDepth_120 m0 sh rr ww so pl qo pn tg px fa hb n (F_X0_readDepth_120 (y_b (ww so))) := by
  intro v2 sc bm res hE hF
  unfold F_X0_readDepth_120 at hE
  refine aw_aload_n dX0_readDepth_120 rfl ?_
  refine aw_getf (v := .int (bm_comp bm)) dX0_readDepth_121 flX0_60_0 at_bmp rfl ?_
  refine aw_iconst (v := 2) dX0_readDepth_124 (by decide) ?_
  refine aw_icmp_ne (tgt := 140) dX0_readDepth_125 (by decide) (fun c125 => ?_) (fun c125 => ?_)
  · replace hE := fif hE c125
    exact aw_lv _ (List.forall_mem_cons.mpr ⟨rfl, (List.forall_mem_cons.mpr ⟨rfl, (List.forall_mem_cons.mpr ⟨rfl, fun _ h => absurd h List.not_mem_nil⟩)⟩)⟩) (b_X0_readDepth_140 m0 sh rr ww so pl qo pn tg px fa hb n hso  v2 sc bm _ hE hF)
  · replace hE := fit hE c125
    refine aw_aload_n dX0_readDepth_128 rfl ?_
    refine aw_getf (v := .int (bm_bits bm)) dX0_readDepth_129 flX0_72_0 at_bmp rfl ?_
    refine aw_iconst (v := 4) dX0_readDepth_132 (by decide) ?_
    refine aw_icmp_ne (tgt := 140) dX0_readDepth_133 (by decide) (fun c133 => ?_) (fun c133 => ?_)
    · replace hE := fif hE c133
      exact aw_lv _ (List.forall_mem_cons.mpr ⟨rfl, (List.forall_mem_cons.mpr ⟨rfl, (List.forall_mem_cons.mpr ⟨rfl, fun _ h => absurd h List.not_mem_nil⟩)⟩)⟩) (b_X0_readDepth_140 m0 sh rr ww so pl qo pn tg px fa hb n hso  v2 sc bm _ hE hF)
    · replace hE := fit hE c133
      exact aw_lv _ (List.forall_mem_cons.mpr ⟨rfl, (List.forall_mem_cons.mpr ⟨rfl, (List.forall_mem_cons.mpr ⟨rfl, fun _ h => absurd h List.not_mem_nil⟩)⟩)⟩) (b_X0_readDepth_136 m0 sh rr ww so pl qo pn tg px fa hb n hso  v2 sc bm _ hE hF)
def F_X0_readDepth_90 (sb : A)  (sc : Src) (bm : Bmp) : Out (Src × Bmp) Unit := fon (F_X8_low4 sc sb) (fun z97 s97 => if z97 = 1 then (if (bm_bits bm) = 8 then (F_X0_readDepth_136 sb (sc_pos sc) s97 ((bm_f1 bm), (bm_f2 bm), (bm_f3 bm), (bm_top bm), (bm_bits bm), z97, (bm_used bm), (bm_packed bm), (bm_column bm), (bm_up bm), (bm_col bm))) else (F_X0_readDepth_120 sb (sc_pos sc) s97 ((bm_f1 bm), (bm_f2 bm), (bm_f3 bm), (bm_top bm), (bm_bits bm), z97, (bm_used bm), (bm_packed bm), (bm_column bm), (bm_up bm), (bm_col bm)))) else (F_X0_readDepth_120 sb (sc_pos sc) s97 ((bm_f1 bm), (bm_f2 bm), (bm_f3 bm), (bm_top bm), (bm_bits bm), z97, (bm_used bm), (bm_packed bm), (bm_column bm), (bm_up bm), (bm_col bm)))) (fun E s97 => fex E (s97, bm))
set_option maxHeartbeats 1000000 in
set_option maxRecDepth 100000 in
theorem b_X0_readDepth_90 (m0 : Mnt) (sh : Nat → Nat) (rr : Nat → Ras) (ww : Nat → Row) (so : Nat) (pl : Pal) (qo : Qoi) (pn : Pnm) (tg : Tga) (px : Pcx) (fa : A) (hb : aH) (n : Nat) (hso : isW so)  : Q_X0_readDepth_90 m0 sh rr ww so pl qo pn tg px fa hb n (F_X0_readDepth_90 (y_b (ww so))) := by
  intro sc bm res hE hF
  unfold F_X0_readDepth_90 at hE
  refine aw_aload_n dX0_readDepth_90 rfl ?_
  refine aw_getf (v := .int (sc_pos sc)) dX0_readDepth_91 flX0_57_7 at_src rfl ?_
  refine aw_istore_n (lv2 := [(2, _), (0, _), (1, _)]) dX0_readDepth_94 (by decide) rfl ?_
  refine aw_aload_n dX0_readDepth_95 rfl ?_
  refine aw_aload_n dX0_readDepth_96 rfl ?_
  refine aw_callV dX0_readDepth_97 at_src cvX0_32 rfl (kF_X8_low4 m0 sh rr ww so sc pl qo pn bm tg px fa hb _ hso  (fon_ne hE hF)) rfl (Nat.le_of_ble_eq_true rfl) (by decide) (by decide) (by decide) (by decide) (fun E h2 n2 hx => aw_out rfl (by decide) (by decide) (by obtain ⟨s97, e97, rfl, rfl⟩ := hx; exact ⟨_, (fon_ex e97 hE).symm, rfl, rfl⟩)) (fun r97 h97 n97 hp97 => ?_)
  obtain ⟨z97, s97, e97, rfl, rfl, rfl⟩ := hp97
  replace hE := fon_ok e97 hE
  refine aw_putf dX0_readDepth_100 ptX0_60_0 at_bmp (Nat.le_of_ble_eq_true rfl) ⟨rfl, rfl⟩ ?_
  refine aw_eqh (h2 := HC m0 sh rr ww so s97 pl qo pn ((bm_f1 bm), (bm_f2 bm), (bm_f3 bm), (bm_top bm), (bm_bits bm), z97, (bm_used bm), (bm_packed bm), (bm_column bm), (bm_up bm), (bm_col bm)) tg px fa hb) up_bmp ?_
  refine aw_aload_n dX0_readDepth_103 rfl ?_
  refine aw_getf (v := .int z97) dX0_readDepth_104 flX0_60_0 at_bmp rfl ?_
  refine aw_iconst (v := 1) dX0_readDepth_107 (by decide) ?_
  refine aw_icmp_ne (tgt := 120) dX0_readDepth_108 (by decide) (fun c108 => ?_) (fun c108 => ?_)
  · replace hE := fif hE c108
    exact aw_lv _ (List.forall_mem_cons.mpr ⟨rfl, (List.forall_mem_cons.mpr ⟨rfl, (List.forall_mem_cons.mpr ⟨rfl, fun _ h => absurd h List.not_mem_nil⟩)⟩)⟩) (b_X0_readDepth_120 m0 sh rr ww so pl qo pn tg px fa hb n hso  (sc_pos sc) s97 ((bm_f1 bm), (bm_f2 bm), (bm_f3 bm), (bm_top bm), (bm_bits bm), z97, (bm_used bm), (bm_packed bm), (bm_column bm), (bm_up bm), (bm_col bm)) _ hE hF)
  · replace hE := fit hE c108
    refine aw_aload_n dX0_readDepth_111 rfl ?_
    refine aw_getf (v := .int (bm_bits bm)) dX0_readDepth_112 flX0_72_0 at_bmp rfl ?_
    refine aw_bipush (v := 8) dX0_readDepth_115 (by decide) ?_
    refine aw_icmp_eq (tgt := 136) dX0_readDepth_117 (by decide) (fun c117 => ?_) (fun c117 => ?_)
    · replace hE := fit hE c117
      exact aw_lv _ (List.forall_mem_cons.mpr ⟨rfl, (List.forall_mem_cons.mpr ⟨rfl, (List.forall_mem_cons.mpr ⟨rfl, fun _ h => absurd h List.not_mem_nil⟩)⟩)⟩) (b_X0_readDepth_136 m0 sh rr ww so pl qo pn tg px fa hb n hso  (sc_pos sc) s97 ((bm_f1 bm), (bm_f2 bm), (bm_f3 bm), (bm_top bm), (bm_bits bm), z97, (bm_used bm), (bm_packed bm), (bm_column bm), (bm_up bm), (bm_col bm)) _ hE hF)
    · replace hE := fif hE c117
      exact aw_lv _ (List.forall_mem_cons.mpr ⟨rfl, (List.forall_mem_cons.mpr ⟨rfl, (List.forall_mem_cons.mpr ⟨rfl, fun _ h => absurd h List.not_mem_nil⟩)⟩)⟩) (b_X0_readDepth_120 m0 sh rr ww so pl qo pn tg px fa hb n hso  (sc_pos sc) s97 ((bm_f1 bm), (bm_f2 bm), (bm_f3 bm), (bm_top bm), (bm_bits bm), z97, (bm_used bm), (bm_packed bm), (bm_column bm), (bm_up bm), (bm_col bm)) _ hE hF)
def F_X0_readDepth (sc : Src) (sb : A) (bm : Bmp) : Out (Src × Bmp) Unit := fon (F_X8_low2 sc sb) (fun z6 s6 => if z6 = 1 then (fon (F_X8_low2 s6 sb) (fun z26 s26 => if z26 = 1 then (F_X0_readDepth_90 sb s26 ((bm_f1 bm), (bm_f2 bm), (bm_f3 bm), (bm_top bm), z26, (bm_comp bm), (bm_used bm), (bm_packed bm), (bm_column bm), (bm_up bm), (bm_col bm))) else (if z26 = 4 then (F_X0_readDepth_90 sb s26 ((bm_f1 bm), (bm_f2 bm), (bm_f3 bm), (bm_top bm), z26, (bm_comp bm), (bm_used bm), (bm_packed bm), (bm_column bm), (bm_up bm), (bm_col bm))) else (if z26 = 8 then (F_X0_readDepth_90 sb s26 ((bm_f1 bm), (bm_f2 bm), (bm_f3 bm), (bm_top bm), z26, (bm_comp bm), (bm_used bm), (bm_packed bm), (bm_column bm), (bm_up bm), (bm_col bm))) else (if z26 = 16 then (F_X0_readDepth_90 sb s26 ((bm_f1 bm), (bm_f2 bm), (bm_f3 bm), (bm_top bm), z26, (bm_comp bm), (bm_used bm), (bm_packed bm), (bm_column bm), (bm_up bm), (bm_col bm))) else (if z26 = 24 then (F_X0_readDepth_90 sb s26 ((bm_f1 bm), (bm_f2 bm), (bm_f3 bm), (bm_top bm), z26, (bm_comp bm), (bm_used bm), (bm_packed bm), (bm_column bm), (bm_up bm), (bm_col bm))) else (if z26 = 32 then (F_X0_readDepth_90 sb s26 ((bm_f1 bm), (bm_f2 bm), (bm_f3 bm), (bm_top bm), z26, (bm_comp bm), (bm_used bm), (bm_packed bm), (bm_column bm), (bm_up bm), (bm_col bm))) else (fon (F_X8_refuse 2 (sc_pos s6) s26) (fun _ _ => fno) (fun E s87 => fex E (s87, ((bm_f1 bm), (bm_f2 bm), (bm_f3 bm), (bm_top bm), z26, (bm_comp bm), (bm_used bm), (bm_packed bm), (bm_column bm), (bm_up bm), (bm_col bm))))))))))) (fun E s26 => fex E (s26, bm))) else (fon (F_X8_refuse 2 (sc_pos sc) s6) (fun _ _ => fno) (fun E s16 => fex E (s16, bm)))) (fun E s6 => fex E (s6, bm))
set_option maxHeartbeats 1000000 in
set_option maxRecDepth 100000 in
theorem kF_X0_readDepth (m0 : Mnt) (sh : Nat → Nat) (rr : Nat → Ras) (ww : Nat → Row) (so : Nat) (sc : Src) (pl : Pal) (qo : Qoi) (pn : Pnm) (bm : Bmp) (tg : Tga) (px : Pcx) (fa : A) (hb : aH) (n : Nat) (hso : isW so)  (hF : F_X0_readDepth sc (y_b (ww so)) bm ≠ fno) : AM mX0_readDepth 6 [.ref 24, .ref 16] (HC m0 sh rr ww so sc pl qo pn bm tg px fa hb) n 1 6 0 0 (P_X0_readDepth m0 sh rr ww so pl qo pn tg px fa hb n (F_X0_readDepth sc (y_b (ww so)) bm)) (X_X0_readDepth m0 sh rr ww so pl qo pn tg px fa hb n (F_X0_readDepth sc (y_b (ww so)) bm)) := by
  generalize hE : F_X0_readDepth sc (y_b (ww so)) bm = res at hF ⊢
  refine aw_of (by decide +kernel) rfl (Nat.le_of_ble_eq_true rfl) ?_
  unfold F_X0_readDepth at hE
  refine aw_aload_n dX0_readDepth_0 rfl ?_
  refine aw_getf (v := .int (sc_pos sc)) dX0_readDepth_1 flX0_57_7 at_src rfl ?_
  refine aw_istore_n (lv2 := [(2, _), (0, _), (1, _)]) dX0_readDepth_4 (by decide) rfl ?_
  refine aw_aload_n dX0_readDepth_5 rfl ?_
  refine aw_callV dX0_readDepth_6 at_src cvX0_99 rfl (kF_X8_low2 m0 sh rr ww so sc pl qo pn bm tg px fa hb _ hso  (fon_ne hE hF)) rfl (Nat.le_of_ble_eq_true rfl) (by decide) (by decide) (by decide) (by decide) (fun E h2 n2 hx => aw_out rfl (by decide) (by decide) (by obtain ⟨s6, e6, rfl, rfl⟩ := hx; exact ⟨_, (fon_ex e6 hE).symm, rfl, rfl⟩)) (fun r6 h6 n6 hp6 => ?_)
  obtain ⟨z6, s6, e6, rfl, rfl, rfl⟩ := hp6
  replace hE := fon_ok e6 hE
  refine aw_iconst (v := 1) dX0_readDepth_9 (by decide) ?_
  refine aw_icmp_eq (tgt := 19) dX0_readDepth_10 (by decide) (fun c10 => ?_) (fun c10 => ?_)
  · replace hE := fit hE c10
    refine aw_aload_n dX0_readDepth_19 rfl ?_
    refine aw_getf (v := .int (sc_pos s6)) dX0_readDepth_20 flX0_57_7 at_src rfl ?_
    refine aw_istore_n (lv2 := [(2, _), (0, _), (1, _)]) dX0_readDepth_23 (by decide) rfl ?_
    refine aw_aload_n dX0_readDepth_24 rfl ?_
    refine aw_aload_n dX0_readDepth_25 rfl ?_
    refine aw_callV dX0_readDepth_26 at_src cvX0_99 rfl (kF_X8_low2 m0 sh rr ww so s6 pl qo pn bm tg px fa hb _ hso  (fon_ne hE hF)) rfl (Nat.le_of_ble_eq_true rfl) (by decide) (by decide) (by decide) (by decide) (fun E h2 n2 hx => aw_out rfl (by decide) (by decide) (by obtain ⟨s26, e26, rfl, rfl⟩ := hx; exact ⟨_, (fon_ex e26 hE).symm, rfl, rfl⟩)) (fun r26 h26 n26 hp26 => ?_)
    obtain ⟨z26, s26, e26, rfl, rfl, rfl⟩ := hp26
    replace hE := fon_ok e26 hE
    refine aw_putf dX0_readDepth_29 ptX0_72_0 at_bmp (Nat.le_of_ble_eq_true rfl) ⟨rfl, rfl⟩ ?_
    refine aw_eqh (h2 := HC m0 sh rr ww so s26 pl qo pn ((bm_f1 bm), (bm_f2 bm), (bm_f3 bm), (bm_top bm), z26, (bm_comp bm), (bm_used bm), (bm_packed bm), (bm_column bm), (bm_up bm), (bm_col bm)) tg px fa hb) up_bmp ?_
    refine aw_aload_n dX0_readDepth_32 rfl ?_
    refine aw_getf (v := .int z26) dX0_readDepth_33 flX0_72_0 at_bmp rfl ?_
    refine aw_iconst (v := 1) dX0_readDepth_36 (by decide) ?_
    refine aw_icmp_eq (tgt := 90) dX0_readDepth_37 (by decide) (fun c37 => ?_) (fun c37 => ?_)
    · replace hE := fit hE c37
      exact aw_lv _ (List.forall_mem_cons.mpr ⟨rfl, (List.forall_mem_cons.mpr ⟨rfl, fun _ h => absurd h List.not_mem_nil⟩)⟩) (b_X0_readDepth_90 m0 sh rr ww so pl qo pn tg px fa hb n hso  s26 ((bm_f1 bm), (bm_f2 bm), (bm_f3 bm), (bm_top bm), z26, (bm_comp bm), (bm_used bm), (bm_packed bm), (bm_column bm), (bm_up bm), (bm_col bm)) _ hE hF)
    · replace hE := fif hE c37
      refine aw_aload_n dX0_readDepth_40 rfl ?_
      refine aw_getf (v := .int z26) dX0_readDepth_41 flX0_72_0 at_bmp rfl ?_
      refine aw_iconst (v := 4) dX0_readDepth_44 (by decide) ?_
      refine aw_icmp_eq (tgt := 90) dX0_readDepth_45 (by decide) (fun c45 => ?_) (fun c45 => ?_)
      · replace hE := fit hE c45
        exact aw_lv _ (List.forall_mem_cons.mpr ⟨rfl, (List.forall_mem_cons.mpr ⟨rfl, fun _ h => absurd h List.not_mem_nil⟩)⟩) (b_X0_readDepth_90 m0 sh rr ww so pl qo pn tg px fa hb n hso  s26 ((bm_f1 bm), (bm_f2 bm), (bm_f3 bm), (bm_top bm), z26, (bm_comp bm), (bm_used bm), (bm_packed bm), (bm_column bm), (bm_up bm), (bm_col bm)) _ hE hF)
      · replace hE := fif hE c45
        refine aw_aload_n dX0_readDepth_48 rfl ?_
        refine aw_getf (v := .int z26) dX0_readDepth_49 flX0_72_0 at_bmp rfl ?_
        refine aw_bipush (v := 8) dX0_readDepth_52 (by decide) ?_
        refine aw_icmp_eq (tgt := 90) dX0_readDepth_54 (by decide) (fun c54 => ?_) (fun c54 => ?_)
        · replace hE := fit hE c54
          exact aw_lv _ (List.forall_mem_cons.mpr ⟨rfl, (List.forall_mem_cons.mpr ⟨rfl, fun _ h => absurd h List.not_mem_nil⟩)⟩) (b_X0_readDepth_90 m0 sh rr ww so pl qo pn tg px fa hb n hso  s26 ((bm_f1 bm), (bm_f2 bm), (bm_f3 bm), (bm_top bm), z26, (bm_comp bm), (bm_used bm), (bm_packed bm), (bm_column bm), (bm_up bm), (bm_col bm)) _ hE hF)
        · replace hE := fif hE c54
          refine aw_aload_n dX0_readDepth_57 rfl ?_
          refine aw_getf (v := .int z26) dX0_readDepth_58 flX0_72_0 at_bmp rfl ?_
          refine aw_bipush (v := 16) dX0_readDepth_61 (by decide) ?_
          refine aw_icmp_eq (tgt := 90) dX0_readDepth_63 (by decide) (fun c63 => ?_) (fun c63 => ?_)
          · replace hE := fit hE c63
            exact aw_lv _ (List.forall_mem_cons.mpr ⟨rfl, (List.forall_mem_cons.mpr ⟨rfl, fun _ h => absurd h List.not_mem_nil⟩)⟩) (b_X0_readDepth_90 m0 sh rr ww so pl qo pn tg px fa hb n hso  s26 ((bm_f1 bm), (bm_f2 bm), (bm_f3 bm), (bm_top bm), z26, (bm_comp bm), (bm_used bm), (bm_packed bm), (bm_column bm), (bm_up bm), (bm_col bm)) _ hE hF)
          · replace hE := fif hE c63
            refine aw_aload_n dX0_readDepth_66 rfl ?_
            refine aw_getf (v := .int z26) dX0_readDepth_67 flX0_72_0 at_bmp rfl ?_
            refine aw_bipush (v := 24) dX0_readDepth_70 (by decide) ?_
            refine aw_icmp_eq (tgt := 90) dX0_readDepth_72 (by decide) (fun c72 => ?_) (fun c72 => ?_)
            · replace hE := fit hE c72
              exact aw_lv _ (List.forall_mem_cons.mpr ⟨rfl, (List.forall_mem_cons.mpr ⟨rfl, fun _ h => absurd h List.not_mem_nil⟩)⟩) (b_X0_readDepth_90 m0 sh rr ww so pl qo pn tg px fa hb n hso  s26 ((bm_f1 bm), (bm_f2 bm), (bm_f3 bm), (bm_top bm), z26, (bm_comp bm), (bm_used bm), (bm_packed bm), (bm_column bm), (bm_up bm), (bm_col bm)) _ hE hF)
            · replace hE := fif hE c72
              refine aw_aload_n dX0_readDepth_75 rfl ?_
              refine aw_getf (v := .int z26) dX0_readDepth_76 flX0_72_0 at_bmp rfl ?_
              refine aw_bipush (v := 32) dX0_readDepth_79 (by decide) ?_
              refine aw_icmp_eq (tgt := 90) dX0_readDepth_81 (by decide) (fun c81 => ?_) (fun c81 => ?_)
              · replace hE := fit hE c81
                exact aw_lv _ (List.forall_mem_cons.mpr ⟨rfl, (List.forall_mem_cons.mpr ⟨rfl, fun _ h => absurd h List.not_mem_nil⟩)⟩) (b_X0_readDepth_90 m0 sh rr ww so pl qo pn tg px fa hb n hso  s26 ((bm_f1 bm), (bm_f2 bm), (bm_f3 bm), (bm_top bm), z26, (bm_comp bm), (bm_used bm), (bm_packed bm), (bm_column bm), (bm_up bm), (bm_col bm)) _ hE hF)
              · replace hE := fif hE c81
                refine aw_aload_n dX0_readDepth_84 rfl ?_
                refine aw_iconst (v := 2) dX0_readDepth_85 (by decide) ?_
                refine aw_iload_n dX0_readDepth_86 rfl ?_
                refine aw_callV dX0_readDepth_87 at_src cvX0_87 rfl (kF_X8_refuse m0 sh rr ww so s26 pl qo pn ((bm_f1 bm), (bm_f2 bm), (bm_f3 bm), (bm_top bm), z26, (bm_comp bm), (bm_used bm), (bm_packed bm), (bm_column bm), (bm_up bm), (bm_col bm)) tg px fa hb _  2 (sc_pos s6) (fon_ne hE hF)) rfl (Nat.le_of_ble_eq_true rfl) (by decide) (by decide) (by decide) (by decide) (fun E h2 n2 hx => aw_out rfl (by decide) (by decide) (by obtain ⟨s87, e87, rfl, rfl⟩ := hx; exact ⟨_, (fon_ex e87 hE).symm, rfl, rfl⟩)) (fun r87 h87 n87 hp87 => ?_)
                obtain ⟨z87, s87, e87, rfl, rfl, rfl⟩ := hp87
                exact (hF (fon_ok e87 hE).symm).elim
  · replace hE := fif hE c10
    refine aw_aload_n dX0_readDepth_13 rfl ?_
    refine aw_iconst (v := 2) dX0_readDepth_14 (by decide) ?_
    refine aw_iload_n dX0_readDepth_15 rfl ?_
    refine aw_callV dX0_readDepth_16 at_src cvX0_87 rfl (kF_X8_refuse m0 sh rr ww so s6 pl qo pn bm tg px fa hb _  2 (sc_pos sc) (fon_ne hE hF)) rfl (Nat.le_of_ble_eq_true rfl) (by decide) (by decide) (by decide) (by decide) (fun E h2 n2 hx => aw_out rfl (by decide) (by decide) (by obtain ⟨s16, e16, rfl, rfl⟩ := hx; exact ⟨_, (fon_ex e16 hE).symm, rfl, rfl⟩)) (fun r16 h16 n16 hp16 => ?_)
    obtain ⟨z16, s16, e16, rfl, rfl, rfl⟩ := hp16
    exact (hF (fon_ok e16 hE).symm).elim
def P_X0_readUsed (m0 : Mnt) (sh : Nat → Nat) (rr : Nat → Ras) (ww : Nat → Row) (so : Nat) (pl : Pal) (qo : Qoi) (pn : Pnm) (tg : Tga) (px : Pcx) (fa : A) (hb : aH) (n : Nat) (res : Out (Src × Bmp) Unit) : Option Value → aH → Nat → Prop := fun r1 h2 n2 => ∃ (a : Unit) (s : (Src × Bmp)), res = fok a s ∧ r1 = none ∧ h2 = HC m0 sh rr ww so s.1 pl qo pn s.2 tg px fa hb ∧ n = n2
def X_X0_readUsed (m0 : Mnt) (sh : Nat → Nat) (rr : Nat → Ras) (ww : Nat → Row) (so : Nat) (pl : Pal) (qo : Qoi) (pn : Pnm) (tg : Tga) (px : Pcx) (fa : A) (hb : aH) (n : Nat) (res : Out (Src × Bmp) Unit) : String → aH → Nat → Prop := fun E h2 n2 => ∃ s : (Src × Bmp), res = fex E s ∧ h2 = HC m0 sh rr ww so s.1 pl qo pn s.2 tg px fa hb ∧ n = n2
abbrev Q_X0_readUsed_32 (m0 : Mnt) (sh : Nat → Nat) (rr : Nat → Ras) (ww : Nat → Row) (so : Nat) (pl : Pal) (qo : Qoi) (pn : Pnm) (tg : Tga) (px : Pcx) (fa : A) (hb : aH) (n : Nat) (k : Int32 → Int32 → Src → Bmp → Out (Src × Bmp) Unit) : Prop := ∀ (v2 : Int32) (t0 : Int32) (sc : Src) (bm : Bmp) (res : Out (Src × Bmp) Unit), k v2 t0 sc bm = res → res ≠ fno → AW (fun _ _ => True) mX0_readUsed (rmD 6 1 6) 0 0 (P_X0_readUsed m0 sh rr ww so pl qo pn tg px fa hb n res) (X_X0_readUsed m0 sh rr ww so pl qo pn tg px fa hb n res) 0 0 32 [(0, .ref 24), (1, .ref 16), (2, .int v2)] [.int t0] (HC m0 sh rr ww so sc pl qo pn bm tg px fa hb) n
abbrev Q_X0_readUsed_48 (m0 : Mnt) (sh : Nat → Nat) (rr : Nat → Ras) (ww : Nat → Row) (so : Nat) (pl : Pal) (qo : Qoi) (pn : Pnm) (tg : Tga) (px : Pcx) (fa : A) (hb : aH) (n : Nat) (k : Int32 → Src → Bmp → Out (Src × Bmp) Unit) : Prop := ∀ (v2 : Int32) (sc : Src) (bm : Bmp) (res : Out (Src × Bmp) Unit), k v2 sc bm = res → res ≠ fno → AW (fun _ _ => True) mX0_readUsed (rmD 6 1 6) 0 0 (P_X0_readUsed m0 sh rr ww so pl qo pn tg px fa hb n res) (X_X0_readUsed m0 sh rr ww so pl qo pn tg px fa hb n res) 0 0 48 [(1, .ref 16), (2, .int v2)] [] (HC m0 sh rr ww so sc pl qo pn bm tg px fa hb) n
def F_X0_readUsed_48 (sb : A)  (v2 : Int32) (sc : Src) (bm : Bmp) : Out (Src × Bmp) Unit := fon (F_X8_refuse 2 v2 sc) (fun _ _ => fno) (fun E s51 => fex E (s51, bm))
set_option maxHeartbeats 1000000 in
set_option maxRecDepth 100000 in
theorem b_X0_readUsed_48 (m0 : Mnt) (sh : Nat → Nat) (rr : Nat → Ras) (ww : Nat → Row) (so : Nat) (pl : Pal) (qo : Qoi) (pn : Pnm) (tg : Tga) (px : Pcx) (fa : A) (hb : aH) (n : Nat) (hso : isW so)  : Q_X0_readUsed_48 m0 sh rr ww so pl qo pn tg px fa hb n (F_X0_readUsed_48 (y_b (ww so))) := by
  intro v2 sc bm res hE hF
  unfold F_X0_readUsed_48 at hE
  refine aw_aload_n dX0_readUsed_48 rfl ?_
  refine aw_iconst (v := 2) dX0_readUsed_49 (by decide) ?_
  refine aw_iload_n dX0_readUsed_50 rfl ?_
  refine aw_callV dX0_readUsed_51 at_src cvX0_87 rfl (kF_X8_refuse m0 sh rr ww so sc pl qo pn bm tg px fa hb _  2 v2 (fon_ne hE hF)) rfl (Nat.le_of_ble_eq_true rfl) (by decide) (by decide) (by decide) (by decide) (fun E h2 n2 hx => aw_out rfl (by decide) (by decide) (by obtain ⟨s51, e51, rfl, rfl⟩ := hx; exact ⟨_, (fon_ex e51 hE).symm, rfl, rfl⟩)) (fun r51 h51 n51 hp51 => ?_)
  obtain ⟨z51, s51, e51, rfl, rfl, rfl⟩ := hp51
  exact (hF (fon_ok e51 hE).symm).elim
def F_X0_readUsed_32 (sb : A)  (v2 : Int32) (t0 : Int32) (sc : Src) (bm : Bmp) : Out (Src × Bmp) Unit := if (bm_used bm) < 0 then (F_X0_readUsed_48 sb v2 sc bm) else (if (bm_used bm) ≤ t0 then (if (bm_used bm) = 0 then (fok () (sc, ((bm_f1 bm), (bm_f2 bm), (bm_f3 bm), (bm_top bm), (bm_bits bm), (bm_comp bm), t0, (bm_packed bm), (bm_column bm), (bm_up bm), (bm_col bm)))) else (fok () (sc, bm))) else (F_X0_readUsed_48 sb v2 sc bm))
set_option maxHeartbeats 1000000 in
set_option maxRecDepth 100000 in
theorem b_X0_readUsed_32 (m0 : Mnt) (sh : Nat → Nat) (rr : Nat → Ras) (ww : Nat → Row) (so : Nat) (pl : Pal) (qo : Qoi) (pn : Pnm) (tg : Tga) (px : Pcx) (fa : A) (hb : aH) (n : Nat) (hso : isW so)  : Q_X0_readUsed_32 m0 sh rr ww so pl qo pn tg px fa hb n (F_X0_readUsed_32 (y_b (ww so))) := by
  intro v2 t0 sc bm res hE hF
  unfold F_X0_readUsed_32 at hE
  refine aw_istore_n (lv2 := [(3, _), (0, _), (1, _), (2, _)]) dX0_readUsed_32 (by decide) rfl ?_
  refine aw_aload_n dX0_readUsed_33 rfl ?_
  refine aw_getf (v := .int (bm_used bm)) dX0_readUsed_34 flX0_81_0 at_bmp rfl ?_
  refine aw_if_lt (tgt := 48) dX0_readUsed_37 (by decide) (fun c37 => ?_) (fun c37 => ?_)
  · replace hE := fit hE c37
    exact aw_lv _ (List.forall_mem_cons.mpr ⟨rfl, (List.forall_mem_cons.mpr ⟨rfl, fun _ h => absurd h List.not_mem_nil⟩)⟩) (b_X0_readUsed_48 m0 sh rr ww so pl qo pn tg px fa hb n hso  v2 sc bm _ hE hF)
  · replace hE := fif hE c37
    refine aw_aload_n dX0_readUsed_40 rfl ?_
    refine aw_getf (v := .int (bm_used bm)) dX0_readUsed_41 flX0_81_0 at_bmp rfl ?_
    refine aw_iload_n dX0_readUsed_44 rfl ?_
    refine aw_icmp_le (tgt := 54) dX0_readUsed_45 (by decide) (fun c45 => ?_) (fun c45 => ?_)
    · replace hE := fit hE c45
      refine aw_aload_n dX0_readUsed_54 rfl ?_
      refine aw_getf (v := .int (bm_used bm)) dX0_readUsed_55 flX0_81_0 at_bmp rfl ?_
      refine aw_if_ne (tgt := 66) dX0_readUsed_58 (by decide) (fun c58 => ?_) (fun c58 => ?_)
      · replace hE := fif hE c58
        exact aw_vret dX0_readUsed_66 rfl (Nat.zero_le _) (Nat.zero_le _) (Nat.zero_le _) (Nat.zero_le _) ⟨_, _, hE.symm, rfl, rfl, rfl⟩
      · replace hE := fit hE c58
        refine aw_aload_n dX0_readUsed_61 rfl ?_
        refine aw_iload_n dX0_readUsed_62 rfl ?_
        refine aw_putf dX0_readUsed_63 ptX0_81_0 at_bmp (Nat.le_of_ble_eq_true rfl) ⟨rfl, rfl⟩ ?_
        refine aw_eqh (h2 := HC m0 sh rr ww so sc pl qo pn ((bm_f1 bm), (bm_f2 bm), (bm_f3 bm), (bm_top bm), (bm_bits bm), (bm_comp bm), t0, (bm_packed bm), (bm_column bm), (bm_up bm), (bm_col bm)) tg px fa hb) up_bmp ?_
        exact aw_vret dX0_readUsed_66 rfl (Nat.zero_le _) (Nat.zero_le _) (Nat.zero_le _) (Nat.zero_le _) ⟨_, _, hE.symm, rfl, rfl, rfl⟩
    · replace hE := fif hE c45
      exact aw_lv _ (List.forall_mem_cons.mpr ⟨rfl, (List.forall_mem_cons.mpr ⟨rfl, fun _ h => absurd h List.not_mem_nil⟩)⟩) (b_X0_readUsed_48 m0 sh rr ww so pl qo pn tg px fa hb n hso  v2 sc bm _ hE hF)
def F_X0_readUsed (sc : Src) (sb : A) (bm : Bmp) : Out (Src × Bmp) Unit := fon (F_X8_low4 sc sb) (fun z7 s7 => if 8 < (bm_bits bm) then (F_X0_readUsed_32 sb (sc_pos sc) (0 : Int32) s7 ((bm_f1 bm), (bm_f2 bm), (bm_f3 bm), (bm_top bm), (bm_bits bm), (bm_comp bm), z7, (bm_packed bm), (bm_column bm), (bm_up bm), (bm_col bm))) else (F_X0_readUsed_32 sb (sc_pos sc) (1 <<< ((bm_bits bm) &&& 31)) s7 ((bm_f1 bm), (bm_f2 bm), (bm_f3 bm), (bm_top bm), (bm_bits bm), (bm_comp bm), z7, (bm_packed bm), (bm_column bm), (bm_up bm), (bm_col bm)))) (fun E s7 => fex E (s7, bm))
set_option maxHeartbeats 1000000 in
set_option maxRecDepth 100000 in
theorem kF_X0_readUsed (m0 : Mnt) (sh : Nat → Nat) (rr : Nat → Ras) (ww : Nat → Row) (so : Nat) (sc : Src) (pl : Pal) (qo : Qoi) (pn : Pnm) (bm : Bmp) (tg : Tga) (px : Pcx) (fa : A) (hb : aH) (n : Nat) (hso : isW so)  (hF : F_X0_readUsed sc (y_b (ww so)) bm ≠ fno) : AM mX0_readUsed 6 [.ref 24, .ref 16] (HC m0 sh rr ww so sc pl qo pn bm tg px fa hb) n 1 6 0 0 (P_X0_readUsed m0 sh rr ww so pl qo pn tg px fa hb n (F_X0_readUsed sc (y_b (ww so)) bm)) (X_X0_readUsed m0 sh rr ww so pl qo pn tg px fa hb n (F_X0_readUsed sc (y_b (ww so)) bm)) := by
  generalize hE : F_X0_readUsed sc (y_b (ww so)) bm = res at hF ⊢
  refine aw_of (by decide +kernel) rfl (Nat.le_of_ble_eq_true rfl) ?_
  unfold F_X0_readUsed at hE
  refine aw_aload_n dX0_readUsed_0 rfl ?_
  refine aw_getf (v := .int (sc_pos sc)) dX0_readUsed_1 flX0_57_7 at_src rfl ?_
  refine aw_istore_n (lv2 := [(2, _), (0, _), (1, _)]) dX0_readUsed_4 (by decide) rfl ?_
  refine aw_aload_n dX0_readUsed_5 rfl ?_
  refine aw_aload_n dX0_readUsed_6 rfl ?_
  refine aw_callV dX0_readUsed_7 at_src cvX0_32 rfl (kF_X8_low4 m0 sh rr ww so sc pl qo pn bm tg px fa hb _ hso  (fon_ne hE hF)) rfl (Nat.le_of_ble_eq_true rfl) (by decide) (by decide) (by decide) (by decide) (fun E h2 n2 hx => aw_out rfl (by decide) (by decide) (by obtain ⟨s7, e7, rfl, rfl⟩ := hx; exact ⟨_, (fon_ex e7 hE).symm, rfl, rfl⟩)) (fun r7 h7 n7 hp7 => ?_)
  obtain ⟨z7, s7, e7, rfl, rfl, rfl⟩ := hp7
  replace hE := fon_ok e7 hE
  refine aw_putf dX0_readUsed_10 ptX0_81_0 at_bmp (Nat.le_of_ble_eq_true rfl) ⟨rfl, rfl⟩ ?_
  refine aw_eqh (h2 := HC m0 sh rr ww so s7 pl qo pn ((bm_f1 bm), (bm_f2 bm), (bm_f3 bm), (bm_top bm), (bm_bits bm), (bm_comp bm), z7, (bm_packed bm), (bm_column bm), (bm_up bm), (bm_col bm)) tg px fa hb) up_bmp ?_
  refine aw_aload_n dX0_readUsed_13 rfl ?_
  refine aw_getf (v := .int (bm_bits bm)) dX0_readUsed_14 flX0_72_0 at_bmp rfl ?_
  refine aw_bipush (v := 8) dX0_readUsed_17 (by decide) ?_
  refine aw_icmp_gt (tgt := 31) dX0_readUsed_19 (by decide) (fun c19 => ?_) (fun c19 => ?_)
  · replace hE := fit hE c19
    refine aw_iconst (v := 0) dX0_readUsed_31 (by decide) ?_
    exact aw_lv _ (List.forall_mem_cons.mpr ⟨rfl, (List.forall_mem_cons.mpr ⟨rfl, (List.forall_mem_cons.mpr ⟨rfl, fun _ h => absurd h List.not_mem_nil⟩)⟩)⟩) (b_X0_readUsed_32 m0 sh rr ww so pl qo pn tg px fa hb n hso  (sc_pos sc) (0 : Int32) s7 ((bm_f1 bm), (bm_f2 bm), (bm_f3 bm), (bm_top bm), (bm_bits bm), (bm_comp bm), z7, (bm_packed bm), (bm_column bm), (bm_up bm), (bm_col bm)) _ hE hF)
  · replace hE := fif hE c19
    refine aw_iconst (v := 1) dX0_readUsed_22 (by decide) ?_
    refine aw_aload_n dX0_readUsed_23 rfl ?_
    refine aw_getf (v := .int (bm_bits bm)) dX0_readUsed_24 flX0_72_0 at_bmp rfl ?_
    refine aw_ishl dX0_readUsed_27 ?_
    refine aw_goto (tgt := 32) dX0_readUsed_28 (by decide) ?_
    exact aw_lv _ (List.forall_mem_cons.mpr ⟨rfl, (List.forall_mem_cons.mpr ⟨rfl, (List.forall_mem_cons.mpr ⟨rfl, fun _ h => absurd h List.not_mem_nil⟩)⟩)⟩) (b_X0_readUsed_32 m0 sh rr ww so pl qo pn tg px fa hb n hso  (sc_pos sc) (1 <<< ((bm_bits bm) &&& 31)) s7 ((bm_f1 bm), (bm_f2 bm), (bm_f3 bm), (bm_top bm), (bm_bits bm), (bm_comp bm), z7, (bm_packed bm), (bm_column bm), (bm_up bm), (bm_col bm)) _ hE hF)
def P_X0_readBlueFirst (m0 : Mnt) (sh : Nat → Nat) (rr : Nat → Ras) (ww : Nat → Row) (so : Nat) (pl : Pal) (qo : Qoi) (pn : Pnm) (bm : Bmp) (tg : Tga) (px : Pcx) (fa : A) (hb : aH) (n : Nat) (res : Out Src Int32) : Option Value → aH → Nat → Prop := fun r1 h2 n2 => ∃ (a : Int32) (s : Src), res = fok a s ∧ r1 = some (.int a) ∧ h2 = HC m0 sh rr ww so s pl qo pn bm tg px fa hb ∧ n = n2
def X_X0_readBlueFirst (m0 : Mnt) (sh : Nat → Nat) (rr : Nat → Ras) (ww : Nat → Row) (so : Nat) (pl : Pal) (qo : Qoi) (pn : Pnm) (bm : Bmp) (tg : Tga) (px : Pcx) (fa : A) (hb : aH) (n : Nat) (res : Out Src Int32) : String → aH → Nat → Prop := fun E h2 n2 => ∃ s : Src, res = fex E s ∧ h2 = HC m0 sh rr ww so s pl qo pn bm tg px fa hb ∧ n = n2
def F_X0_readBlueFirst (sc : Src) (sb : A) : Out Src Int32 := fon (F_X8_next sc sb) (fun z1 s1 => fon (F_X8_next s1 sb) (fun z6 s6 => fon (F_X8_next s6 sb) (fun z11 s11 => fok ((F_X10_pixelOf z11 z6 z1 255) : Int32) s11) (fun E s11 => fex E s11)) (fun E s6 => fex E s6)) (fun E s1 => fex E s1)
set_option maxHeartbeats 1000000 in
set_option maxRecDepth 100000 in
theorem kF_X0_readBlueFirst (m0 : Mnt) (sh : Nat → Nat) (rr : Nat → Ras) (ww : Nat → Row) (so : Nat) (sc : Src) (pl : Pal) (qo : Qoi) (pn : Pnm) (bm : Bmp) (tg : Tga) (px : Pcx) (fa : A) (hb : aH) (n : Nat) (hso : isW so)  (hF : F_X0_readBlueFirst sc (y_b (ww so)) ≠ fno) : AM mX0_readBlueFirst 4 [.ref 16] (HC m0 sh rr ww so sc pl qo pn bm tg px fa hb) n 1 6 0 0 (P_X0_readBlueFirst m0 sh rr ww so pl qo pn bm tg px fa hb n (F_X0_readBlueFirst sc (y_b (ww so)))) (X_X0_readBlueFirst m0 sh rr ww so pl qo pn bm tg px fa hb n (F_X0_readBlueFirst sc (y_b (ww so)))) := by
  generalize hE : F_X0_readBlueFirst sc (y_b (ww so)) = res at hF ⊢
  refine aw_of (by decide +kernel) rfl (Nat.le_of_ble_eq_true rfl) ?_
  unfold F_X0_readBlueFirst at hE
  refine aw_aload_n dX0_readBlueFirst_0 rfl ?_
  refine aw_callV dX0_readBlueFirst_1 at_src cvX0_112 rfl (kF_X8_next m0 sh rr ww so sc pl qo pn bm tg px fa hb _ hso  (fon_ne hE hF)) rfl (Nat.le_of_ble_eq_true rfl) (by decide) (by decide) (by decide) (by decide) (fun E h2 n2 hx => aw_out rfl (by decide) (by decide) (by obtain ⟨s1, e1, rfl, rfl⟩ := hx; exact ⟨_, (fon_ex e1 hE).symm, rfl, rfl⟩)) (fun r1 h1 n1 hp1 => ?_)
  obtain ⟨z1, s1, e1, rfl, rfl, rfl⟩ := hp1
  replace hE := fon_ok e1 hE
  refine aw_istore_n (lv2 := [(1, _), (0, _)]) dX0_readBlueFirst_4 (by decide) rfl ?_
  refine aw_aload_n dX0_readBlueFirst_5 rfl ?_
  refine aw_callV dX0_readBlueFirst_6 at_src cvX0_112 rfl (kF_X8_next m0 sh rr ww so s1 pl qo pn bm tg px fa hb _ hso  (fon_ne hE hF)) rfl (Nat.le_of_ble_eq_true rfl) (by decide) (by decide) (by decide) (by decide) (fun E h2 n2 hx => aw_out rfl (by decide) (by decide) (by obtain ⟨s6, e6, rfl, rfl⟩ := hx; exact ⟨_, (fon_ex e6 hE).symm, rfl, rfl⟩)) (fun r6 h6 n6 hp6 => ?_)
  obtain ⟨z6, s6, e6, rfl, rfl, rfl⟩ := hp6
  replace hE := fon_ok e6 hE
  refine aw_istore_n (lv2 := [(2, _), (1, _), (0, _)]) dX0_readBlueFirst_9 (by decide) rfl ?_
  refine aw_aload_n dX0_readBlueFirst_10 rfl ?_
  refine aw_callV dX0_readBlueFirst_11 at_src cvX0_112 rfl (kF_X8_next m0 sh rr ww so s6 pl qo pn bm tg px fa hb _ hso  (fon_ne hE hF)) rfl (Nat.le_of_ble_eq_true rfl) (by decide) (by decide) (by decide) (by decide) (fun E h2 n2 hx => aw_out rfl (by decide) (by decide) (by obtain ⟨s11, e11, rfl, rfl⟩ := hx; exact ⟨_, (fon_ex e11 hE).symm, rfl, rfl⟩)) (fun r11 h11 n11 hp11 => ?_)
  obtain ⟨z11, s11, e11, rfl, rfl, rfl⟩ := hp11
  replace hE := fon_ok e11 hE
  refine aw_istore_n (lv2 := [(3, _), (2, _), (1, _), (0, _)]) dX0_readBlueFirst_14 (by decide) rfl ?_
  refine aw_iload_n dX0_readBlueFirst_15 rfl ?_
  refine aw_iload_n dX0_readBlueFirst_16 rfl ?_
  refine aw_iload_n dX0_readBlueFirst_17 rfl ?_
  refine aw_sipush (v := 255) dX0_readBlueFirst_18 (by decide) ?_
  refine aw_callSN dX0_readBlueFirst_21  csX0_115 rfl (kF_X10_pixelOf _ _ z11 z6 z1 255) rfl (Nat.le_of_ble_eq_true rfl) (by decide) (by decide) (by decide) (by decide)  (fun r21 h21 n21 hp21 => ?_)
  obtain ⟨rfl, rfl, rfl⟩ := hp21
  exact aw_iret dX0_readBlueFirst_24 rfl (Nat.zero_le _) (Nat.zero_le _) (Nat.zero_le _) (Nat.zero_le _) ⟨_, _, hE.symm, rfl, rfl, rfl⟩
