def P_X0_readIndexed (m0 : Mnt) (sh : Nat → Nat) (rr : Nat → Ras) (ww : Nat → Row) (so : Nat) (pl : Pal) (qo : Qoi) (pn : Pnm) (tg : Tga) (px : Pcx) (fa : A) (hb : aH) (n : Nat) (res : Out (Src × Bmp) Int32) : Option Value → aH → Nat → Prop := fun r1 h2 n2 => ∃ (a : Int32) (s : (Src × Bmp)), res = fok a s ∧ r1 = some (.int a) ∧ h2 = HC m0 sh rr ww so s.1 pl qo pn s.2 tg px fa hb ∧ n = n2
def X_X0_readIndexed (m0 : Mnt) (sh : Nat → Nat) (rr : Nat → Ras) (ww : Nat → Row) (so : Nat) (pl : Pal) (qo : Qoi) (pn : Pnm) (tg : Tga) (px : Pcx) (fa : A) (hb : aH) (n : Nat) (res : Out (Src × Bmp) Int32) : String → aH → Nat → Prop := fun E h2 n2 => ∃ s : (Src × Bmp), res = fex E s ∧ h2 = HC m0 sh rr ww so s.1 pl qo pn s.2 tg px fa hb ∧ n = n2
abbrev Q_X0_readIndexed_22 (m0 : Mnt) (sh : Nat → Nat) (rr : Nat → Ras) (ww : Nat → Row) (so : Nat) (pl : Pal) (qo : Qoi) (pn : Pnm) (tg : Tga) (px : Pcx) (fa : A) (hb : aH) (n : Nat) (k : Int32 → Src → Bmp → Out (Src × Bmp) Int32) : Prop := ∀ (v3 : Int32) (sc : Src) (bm : Bmp) (res : Out (Src × Bmp) Int32), k v3 sc bm = res → res ≠ fno → AW (fun _ _ => True) mX0_readIndexed (rmD 5 1 6) 0 0 (P_X0_readIndexed m0 sh rr ww so pl qo pn tg px fa hb n res) (X_X0_readIndexed m0 sh rr ww so pl qo pn tg px fa hb n res) 0 0 22 [(0, .ref 24), (1, .ref 16), (3, .int v3)] [] (HC m0 sh rr ww so sc pl qo pn bm tg px fa hb) n
def F_X0_readIndexed_22 (sb : A)  (v3 : Int32) (sc : Src) (bm : Bmp) : Out (Src × Bmp) Int32 := fon (F_X0_colourOf (((bm_packed bm) >>> (((8 - (bm_bits bm)) - v3) &&& 31)) &&& ((1 <<< ((bm_bits bm) &&& 31)) - 1)) ((sc_pos sc) - 1) sc bm) (fun z57 s57 => fok (z57 : Int32) (s57, bm)) (fun E s57 => fex E (s57, bm))
set_option maxHeartbeats 1000000 in
set_option maxRecDepth 100000 in
theorem b_X0_readIndexed_22 (m0 : Mnt) (sh : Nat → Nat) (rr : Nat → Ras) (ww : Nat → Row) (so : Nat) (pl : Pal) (qo : Qoi) (pn : Pnm) (tg : Tga) (px : Pcx) (fa : A) (hb : aH) (n : Nat) (hso : isW so)  : Q_X0_readIndexed_22 m0 sh rr ww so pl qo pn tg px fa hb n (F_X0_readIndexed_22 (y_b (ww so))) := by
  intro v3 sc bm res hE hF
  unfold F_X0_readIndexed_22 at hE
  refine aw_aload_n dX0_readIndexed_22 rfl ?_
  refine aw_getf (v := .int (bm_packed bm)) dX0_readIndexed_23 flX0_137_0 at_bmp rfl ?_
  refine aw_bipush (v := 8) dX0_readIndexed_26 (by decide) ?_
  refine aw_aload_n dX0_readIndexed_28 rfl ?_
  refine aw_getf (v := .int (bm_bits bm)) dX0_readIndexed_29 flX0_72_0 at_bmp rfl ?_
  refine aw_isub dX0_readIndexed_32 ?_
  refine aw_iload_n dX0_readIndexed_33 rfl ?_
  refine aw_isub dX0_readIndexed_34 ?_
  refine aw_ishr dX0_readIndexed_35 ?_
  refine aw_iconst (v := 1) dX0_readIndexed_36 (by decide) ?_
  refine aw_aload_n dX0_readIndexed_37 rfl ?_
  refine aw_getf (v := .int (bm_bits bm)) dX0_readIndexed_38 flX0_72_0 at_bmp rfl ?_
  refine aw_ishl dX0_readIndexed_41 ?_
  refine aw_iconst (v := 1) dX0_readIndexed_42 (by decide) ?_
  refine aw_isub dX0_readIndexed_43 ?_
  refine aw_iand dX0_readIndexed_44 ?_
  refine aw_istore (lv2 := [(4, _), (0, _), (1, _), (3, _)]) dX0_readIndexed_45 (by decide) rfl ?_
  refine aw_aload_n dX0_readIndexed_47 rfl ?_
  refine aw_aload_n dX0_readIndexed_48 rfl ?_
  refine aw_iload dX0_readIndexed_49 rfl ?_
  refine aw_aload_n dX0_readIndexed_51 rfl ?_
  refine aw_getf (v := .int (sc_pos sc)) dX0_readIndexed_52 flX0_57_7 at_src rfl ?_
  refine aw_iconst (v := 1) dX0_readIndexed_55 (by decide) ?_
  refine aw_isub dX0_readIndexed_56 ?_
  refine aw_callV dX0_readIndexed_57 at_bmp cvX0_140 rfl (kF_X0_colourOf m0 sh rr ww so sc pl qo pn bm tg px fa hb _  (((bm_packed bm) >>> (((8 - (bm_bits bm)) - v3) &&& 31)) &&& ((1 <<< ((bm_bits bm) &&& 31)) - 1)) ((sc_pos sc) - 1) (fon_ne hE hF)) rfl (Nat.le_of_ble_eq_true rfl) (by decide) (by decide) (by decide) (by decide) (fun E h2 n2 hx => aw_out rfl (by decide) (by decide) (by obtain ⟨s57, e57, rfl, rfl⟩ := hx; exact ⟨_, (fon_ex e57 hE).symm, rfl, rfl⟩)) (fun r57 h57 n57 hp57 => ?_)
  obtain ⟨z57, s57, e57, rfl, rfl, rfl⟩ := hp57
  replace hE := fon_ok e57 hE
  exact aw_iret dX0_readIndexed_60 rfl (Nat.zero_le _) (Nat.zero_le _) (Nat.zero_le _) (Nat.zero_le _) ⟨_, _, hE.symm, rfl, rfl, rfl⟩
def F_X0_readIndexed (a2 : Int32) (sc : Src) (sb : A) (bm : Bmp) : Out (Src × Bmp) Int32 := if ((a2 * (bm_bits bm)) &&& 7) = 0 then (fon (F_X8_next sc sb) (fun z16 s16 => F_X0_readIndexed_22 sb ((a2 * (bm_bits bm)) &&& 7) s16 ((bm_f1 bm), (bm_f2 bm), (bm_f3 bm), (bm_top bm), (bm_bits bm), (bm_comp bm), (bm_used bm), z16, (bm_column bm), (bm_up bm), (bm_col bm))) (fun E s16 => fex E (s16, bm))) else (F_X0_readIndexed_22 sb ((a2 * (bm_bits bm)) &&& 7) sc bm)
set_option maxHeartbeats 1000000 in
set_option maxRecDepth 100000 in
theorem kF_X0_readIndexed (m0 : Mnt) (sh : Nat → Nat) (rr : Nat → Ras) (ww : Nat → Row) (so : Nat) (sc : Src) (pl : Pal) (qo : Qoi) (pn : Pnm) (bm : Bmp) (tg : Tga) (px : Pcx) (fa : A) (hb : aH) (n : Nat) (hso : isW so) (a2 : Int32) (hF : F_X0_readIndexed a2 sc (y_b (ww so)) bm ≠ fno) : AM mX0_readIndexed 5 [.ref 24, .ref 16, .int a2] (HC m0 sh rr ww so sc pl qo pn bm tg px fa hb) n 1 6 0 0 (P_X0_readIndexed m0 sh rr ww so pl qo pn tg px fa hb n (F_X0_readIndexed a2 sc (y_b (ww so)) bm)) (X_X0_readIndexed m0 sh rr ww so pl qo pn tg px fa hb n (F_X0_readIndexed a2 sc (y_b (ww so)) bm)) := by
  generalize hE : F_X0_readIndexed a2 sc (y_b (ww so)) bm = res at hF ⊢
  refine aw_of (by decide +kernel) rfl (Nat.le_of_ble_eq_true rfl) ?_
  unfold F_X0_readIndexed at hE
  refine aw_iload_n dX0_readIndexed_0 rfl ?_
  refine aw_aload_n dX0_readIndexed_1 rfl ?_
  refine aw_getf (v := .int (bm_bits bm)) dX0_readIndexed_2 flX0_72_0 at_bmp rfl ?_
  refine aw_imul dX0_readIndexed_5 ?_
  refine aw_bipush (v := 7) dX0_readIndexed_6 (by decide) ?_
  refine aw_iand dX0_readIndexed_8 ?_
  refine aw_istore_n (lv2 := [(3, _), (0, _), (1, _), (2, _)]) dX0_readIndexed_9 (by decide) rfl ?_
  refine aw_iload_n dX0_readIndexed_10 rfl ?_
  refine aw_if_ne (tgt := 22) dX0_readIndexed_11 (by decide) (fun c11 => ?_) (fun c11 => ?_)
  · replace hE := fif hE c11
    exact aw_lv _ (List.forall_mem_cons.mpr ⟨rfl, (List.forall_mem_cons.mpr ⟨rfl, (List.forall_mem_cons.mpr ⟨rfl, fun _ h => absurd h List.not_mem_nil⟩)⟩)⟩) (b_X0_readIndexed_22 m0 sh rr ww so pl qo pn tg px fa hb n hso  ((a2 * (bm_bits bm)) &&& 7) sc bm _ hE hF)
  · replace hE := fit hE c11
    refine aw_aload_n dX0_readIndexed_14 rfl ?_
    refine aw_aload_n dX0_readIndexed_15 rfl ?_
    refine aw_callV dX0_readIndexed_16 at_src cvX0_112 rfl (kF_X8_next m0 sh rr ww so sc pl qo pn bm tg px fa hb _ hso  (fon_ne hE hF)) rfl (Nat.le_of_ble_eq_true rfl) (by decide) (by decide) (by decide) (by decide) (fun E h2 n2 hx => aw_out rfl (by decide) (by decide) (by obtain ⟨s16, e16, rfl, rfl⟩ := hx; exact ⟨_, (fon_ex e16 hE).symm, rfl, rfl⟩)) (fun r16 h16 n16 hp16 => ?_)
    obtain ⟨z16, s16, e16, rfl, rfl, rfl⟩ := hp16
    replace hE := fon_ok e16 hE
    refine aw_putf dX0_readIndexed_19 ptX0_137_0 at_bmp (Nat.le_of_ble_eq_true rfl) ⟨rfl, rfl⟩ ?_
    refine aw_eqh (h2 := HC m0 sh rr ww so s16 pl qo pn ((bm_f1 bm), (bm_f2 bm), (bm_f3 bm), (bm_top bm), (bm_bits bm), (bm_comp bm), (bm_used bm), z16, (bm_column bm), (bm_up bm), (bm_col bm)) tg px fa hb) up_bmp ?_
    exact aw_lv _ (List.forall_mem_cons.mpr ⟨rfl, (List.forall_mem_cons.mpr ⟨rfl, (List.forall_mem_cons.mpr ⟨rfl, fun _ h => absurd h List.not_mem_nil⟩)⟩)⟩) (b_X0_readIndexed_22 m0 sh rr ww so pl qo pn tg px fa hb n hso  ((a2 * (bm_bits bm)) &&& 7) s16 ((bm_f1 bm), (bm_f2 bm), (bm_f3 bm), (bm_top bm), (bm_bits bm), (bm_comp bm), (bm_used bm), z16, (bm_column bm), (bm_up bm), (bm_col bm)) _ hE hF)
def F_X10_ofSixteenBits (a0 : Int32) (a1 : Int32) : Int32 := ((F_X10_pixelOf (F_X10_ofFiveBits ((a0 >>> ((10 : Int32) &&& 31)) &&& 31)) (F_X10_ofFiveBits ((a0 >>> ((5 : Int32) &&& 31)) &&& 31)) (F_X10_ofFiveBits (a0 &&& 31)) a1) : Int32)
set_option maxRecDepth 100000 in
theorem kF_X10_ofSixteenBits (h : aH) (n : Nat) (a0 : Int32) (a1 : Int32) : AM mX10_ofSixteenBits 2 [.int a0, .int a1] h n 0 0 0 0 (isV (.int (F_X10_ofSixteenBits a0 a1)) h n) noX := by
  generalize hE : F_X10_ofSixteenBits a0 a1 = res
  refine aw_of (by decide +kernel) rfl (Nat.le_of_ble_eq_true rfl) ?_
  unfold F_X10_ofSixteenBits at hE
  refine aw_iload_n dX10_ofSixteenBits_0 rfl ?_
  refine aw_bipush (v := 10) dX10_ofSixteenBits_1 (by decide) ?_
  refine aw_ishr dX10_ofSixteenBits_3 ?_
  refine aw_bipush (v := 31) dX10_ofSixteenBits_4 (by decide) ?_
  refine aw_iand dX10_ofSixteenBits_6 ?_
  refine aw_callS dX10_ofSixteenBits_7  csX10_234 rfl (kF_X10_ofFiveBits _ _ ((a0 >>> ((10 : Int32) &&& 31)) &&& 31)) rfl (Nat.le_of_ble_eq_true rfl) (by decide) (by decide) (by decide) (by decide) (fun _ _ _ hf => False.elim hf) (fun r7 h7 n7 hp7 => ?_)
  obtain ⟨rfl, rfl, rfl⟩ := hp7
  refine aw_iload_n dX10_ofSixteenBits_10 rfl ?_
  refine aw_iconst (v := 5) dX10_ofSixteenBits_11 (by decide) ?_
  refine aw_ishr dX10_ofSixteenBits_12 ?_
  refine aw_bipush (v := 31) dX10_ofSixteenBits_13 (by decide) ?_
  refine aw_iand dX10_ofSixteenBits_15 ?_
  refine aw_callS dX10_ofSixteenBits_16  csX10_234 rfl (kF_X10_ofFiveBits _ _ ((a0 >>> ((5 : Int32) &&& 31)) &&& 31)) rfl (Nat.le_of_ble_eq_true rfl) (by decide) (by decide) (by decide) (by decide) (fun _ _ _ hf => False.elim hf) (fun r16 h16 n16 hp16 => ?_)
  obtain ⟨rfl, rfl, rfl⟩ := hp16
  refine aw_iload_n dX10_ofSixteenBits_19 rfl ?_
  refine aw_bipush (v := 31) dX10_ofSixteenBits_20 (by decide) ?_
  refine aw_iand dX10_ofSixteenBits_22 ?_
  refine aw_callS dX10_ofSixteenBits_23  csX10_234 rfl (kF_X10_ofFiveBits _ _ (a0 &&& 31)) rfl (Nat.le_of_ble_eq_true rfl) (by decide) (by decide) (by decide) (by decide) (fun _ _ _ hf => False.elim hf) (fun r23 h23 n23 hp23 => ?_)
  obtain ⟨rfl, rfl, rfl⟩ := hp23
  refine aw_iload_n dX10_ofSixteenBits_26 rfl ?_
  refine aw_callS dX10_ofSixteenBits_27  csX10_230 rfl (kF_X10_pixelOf _ _ (F_X10_ofFiveBits ((a0 >>> ((10 : Int32) &&& 31)) &&& 31)) (F_X10_ofFiveBits ((a0 >>> ((5 : Int32) &&& 31)) &&& 31)) (F_X10_ofFiveBits (a0 &&& 31)) a1) rfl (Nat.le_of_ble_eq_true rfl) (by decide) (by decide) (by decide) (by decide) (fun _ _ _ hf => False.elim hf) (fun r27 h27 n27 hp27 => ?_)
  obtain ⟨rfl, rfl, rfl⟩ := hp27
  exact aw_iret dX10_ofSixteenBits_30 rfl (Nat.zero_le _) (Nat.zero_le _) (Nat.zero_le _) (Nat.zero_le _) ⟨by subst hE; rfl, rfl, rfl⟩
def P_X0_readLike (m0 : Mnt) (sh : Nat → Nat) (rr : Nat → Ras) (r : Nat) (ww : Nat → Row) (so : Nat) (pl : Pal) (qo : Qoi) (pn : Pnm) (tg : Tga) (px : Pcx) (fa : A) (hb : aH) (n : Nat) (res : Out (Ras × Src × Bmp) Unit) : Option Value → aH → Nat → Prop := fun r1 h2 n2 => ∃ (a : Unit) (s : (Ras × Src × Bmp)), res = fok a s ∧ r1 = none ∧ h2 = HC m0 sh (va_up rr r s.1) ww so s.2.1 pl qo pn s.2.2 tg px fa hb ∧ n = n2
def X_X0_readLike (m0 : Mnt) (sh : Nat → Nat) (rr : Nat → Ras) (r : Nat) (ww : Nat → Row) (so : Nat) (pl : Pal) (qo : Qoi) (pn : Pnm) (tg : Tga) (px : Pcx) (fa : A) (hb : aH) (n : Nat) (res : Out (Ras × Src × Bmp) Unit) : String → aH → Nat → Prop := fun E h2 n2 => ∃ s : (Ras × Src × Bmp), res = fex E s ∧ h2 = HC m0 sh (va_up rr r s.1) ww so s.2.1 pl qo pn s.2.2 tg px fa hb ∧ n = n2
abbrev Q_X0_readLike_3 (m0 : Mnt) (sh : Nat → Nat) (rr : Nat → Ras) (r : Nat) (ww : Nat → Row) (so : Nat) (pl : Pal) (qo : Qoi) (pn : Pnm) (tg : Tga) (px : Pcx) (fa : A) (hb : aH) (n : Nat) (k : Int32 → Int32 → Int32 → Ras → Src → Bmp → Out (Ras × Src × Bmp) Unit) : Prop := ∀ (v3 : Int32) (v4 : Int32) (v5 : Int32) (x : Ras) (sc : Src) (bm : Bmp) (res : Out (Ras × Src × Bmp) Unit), k v3 v4 v5 x sc bm = res → res ≠ fno → AW (fun _ _ => True) mX0_readLike (rmD 5 1 6) 0 0 (P_X0_readLike m0 sh rr r ww so pl qo pn tg px fa hb n res) (X_X0_readLike m0 sh rr r ww so pl qo pn tg px fa hb n res) 0 0 3 [(0, .ref 24), (1, .ref 16), (2, .ref r), (3, .int v3), (4, .int v4), (5, .int v5)] [] (HC m0 sh (va_up rr r x) ww so sc pl qo pn bm tg px fa hb) n
def F_X0_readLike_3  (k3 : Int32 → Int32 → Int32 → Ras → Src → Bmp → Out (Ras × Src × Bmp) Unit) (v3 : Int32) (v4 : Int32) (v5 : Int32) (x : Ras) (sc : Src) (bm : Bmp) : Out (Ras × Src × Bmp) Unit := if v3 ≤ v5 then (fok () (x, sc, bm)) else (fon (F_X0_part v4 v5 bm) (fun z18 s18 => fon (F_X0_colourOf z18 ((sc_pos sc) - 1) sc bm) (fun z27 s27 => fon (F_X0_paint z27 x bm) (fun z30 s30 => k3 v3 v4 (v5 + 1) s30.1 s27 s30.2) (fun _ _ => fno)) (fun E s27 => fex E (x, s27, bm))) (fun _ _ => fno))
set_option maxHeartbeats 1000000 in
set_option maxRecDepth 100000 in
theorem b_X0_readLike_3 (m0 : Mnt) (sh : Nat → Nat) (rr : Nat → Ras) (r : Nat) (ww : Nat → Row) (so : Nat) (pl : Pal) (qo : Qoi) (pn : Pnm) (tg : Tga) (px : Pcx) (fa : A) (hb : aH) (n : Nat) (hr : isR r) (k3 : Int32 → Int32 → Int32 → Ras → Src → Bmp → Out (Ras × Src × Bmp) Unit) (hk3 : Q_X0_readLike_3 m0 sh rr r ww so pl qo pn tg px fa hb n k3) : Q_X0_readLike_3 m0 sh rr r ww so pl qo pn tg px fa hb n (F_X0_readLike_3 k3) := by
  intro v3 v4 v5 x sc bm res hE hF
  unfold F_X0_readLike_3 at hE
  refine aw_iload dX0_readLike_3 rfl ?_
  refine aw_iload_n dX0_readLike_5 rfl ?_
  refine aw_icmp_ge (tgt := 39) dX0_readLike_6 (by decide) (fun c6 => ?_) (fun c6 => ?_)
  · replace hE := fit hE c6
    exact aw_vret dX0_readLike_39 rfl (Nat.zero_le _) (Nat.zero_le _) (Nat.zero_le _) (Nat.zero_le _) ⟨_, _, hE.symm, rfl, rfl, rfl⟩
  · replace hE := fif hE c6
    refine aw_aload_n dX0_readLike_9 rfl ?_
    refine aw_aload_n dX0_readLike_10 rfl ?_
    refine aw_aload_n dX0_readLike_11 rfl ?_
    refine aw_aload_n dX0_readLike_12 rfl ?_
    refine aw_aload_n dX0_readLike_13 rfl ?_
    refine aw_iload dX0_readLike_14 rfl ?_
    refine aw_iload dX0_readLike_16 rfl ?_
    refine aw_callV dX0_readLike_18 at_bmp cvX0_170 rfl (kF_X0_part m0 sh (va_up rr r x) ww so sc pl qo pn bm tg px fa hb _  v4 v5 (fon_ne hE hF)) rfl (Nat.le_of_ble_eq_true rfl) (by decide) (by decide) (by decide) (by decide) (fun _ _ _ hf => False.elim hf) (fun r18 h18 n18 hp18 => ?_)
    obtain ⟨z18, s18, e18, rfl, rfl, rfl⟩ := hp18
    replace hE := fon_ok e18 hE
    refine aw_aload_n dX0_readLike_21 rfl ?_
    refine aw_getf (v := .int (sc_pos sc)) dX0_readLike_22 flX0_57_7 at_src rfl ?_
    refine aw_iconst (v := 1) dX0_readLike_25 (by decide) ?_
    refine aw_isub dX0_readLike_26 ?_
    refine aw_callV dX0_readLike_27 at_bmp cvX0_140 rfl (kF_X0_colourOf m0 sh (va_up rr r x) ww so sc pl qo pn bm tg px fa hb _  z18 ((sc_pos sc) - 1) (fon_ne hE hF)) rfl (Nat.le_of_ble_eq_true rfl) (by decide) (by decide) (by decide) (by decide) (fun E h2 n2 hx => aw_out rfl (by decide) (by decide) (by obtain ⟨s27, e27, rfl, rfl⟩ := hx; exact ⟨_, (fon_ex e27 hE).symm, rfl, rfl⟩)) (fun r27 h27 n27 hp27 => ?_)
    obtain ⟨z27, s27, e27, rfl, rfl, rfl⟩ := hp27
    replace hE := fon_ok e27 hE
    refine aw_callV dX0_readLike_30 at_bmp cvX0_173 rfl (kF_X0_paint m0 sh rr r x ww so s27 pl qo pn bm tg px fa hb _ hr z27 (fon_ne hE hF)) rfl (Nat.le_of_ble_eq_true rfl) (by decide) (by decide) (by decide) (by decide) (fun _ _ _ hf => False.elim hf) (fun r30 h30 n30 hp30 => ?_)
    obtain ⟨z30, s30, e30, rfl, rfl, rfl⟩ := hp30
    replace hE := fon_ok e30 hE
    refine aw_iinc (v := (v5 + 1)) (lv2 := [(5, _), (0, _), (1, _), (2, _), (3, _), (4, _)]) dX0_readLike_33 rfl (incE (by decide)) (by decide) rfl ?_
    refine aw_goto (tgt := 3) dX0_readLike_36 (by decide) ?_
    exact aw_lv _ (List.forall_mem_cons.mpr ⟨rfl, (List.forall_mem_cons.mpr ⟨rfl, (List.forall_mem_cons.mpr ⟨rfl, (List.forall_mem_cons.mpr ⟨rfl, (List.forall_mem_cons.mpr ⟨rfl, (List.forall_mem_cons.mpr ⟨rfl, fun _ h => absurd h List.not_mem_nil⟩)⟩)⟩)⟩)⟩)⟩) (hk3 v3 v4 (v5 + 1) s30.1 s27 s30.2 _ hE hF)
def F_X0_readLike (a3 : Int32) (a4 : Int32) (x : Ras) (sc : Src) (bm : Bmp) : Out (Ras × Src × Bmp) Unit := lp (fun _ _ _ _ _ _ => fno) (F_X0_readLike_3 ) FU a3 a4 (0 : Int32) x sc bm
set_option maxHeartbeats 1000000 in
set_option maxRecDepth 100000 in
theorem kF_X0_readLike (m0 : Mnt) (sh : Nat → Nat) (rr : Nat → Ras) (r : Nat) (x : Ras) (ww : Nat → Row) (so : Nat) (sc : Src) (pl : Pal) (qo : Qoi) (pn : Pnm) (bm : Bmp) (tg : Tga) (px : Pcx) (fa : A) (hb : aH) (n : Nat) (hr : isR r) (a3 : Int32) (a4 : Int32) (hF : F_X0_readLike a3 a4 x sc bm ≠ fno) : AM mX0_readLike 5 [.ref 24, .ref 16, .ref r, .int a3, .int a4] (HC m0 sh (va_up rr r x) ww so sc pl qo pn bm tg px fa hb) n 1 6 0 0 (P_X0_readLike m0 sh rr r ww so pl qo pn tg px fa hb n (F_X0_readLike a3 a4 x sc bm)) (X_X0_readLike m0 sh rr r ww so pl qo pn tg px fa hb n (F_X0_readLike a3 a4 x sc bm)) := by
  generalize hE : F_X0_readLike a3 a4 x sc bm = res at hF ⊢
  refine aw_of (by decide +kernel) rfl (Nat.le_of_ble_eq_true rfl) ?_
  unfold F_X0_readLike at hE
  refine aw_iconst (v := 0) dX0_readLike_0 (by decide) ?_
  refine aw_istore (lv2 := [(5, _), (0, _), (1, _), (2, _), (3, _), (4, _)]) dX0_readLike_1 (by decide) rfl ?_
  exact aw_lv _ (List.forall_mem_cons.mpr ⟨rfl, (List.forall_mem_cons.mpr ⟨rfl, (List.forall_mem_cons.mpr ⟨rfl, (List.forall_mem_cons.mpr ⟨rfl, (List.forall_mem_cons.mpr ⟨rfl, (List.forall_mem_cons.mpr ⟨rfl, fun _ h => absurd h List.not_mem_nil⟩)⟩)⟩)⟩)⟩)⟩) (lp_ind (Q_X0_readLike_3 m0 sh rr r ww so pl qo pn tg px fa hb n) (fun _ _ _ _ _ _ res hq hF => (hF hq.symm).elim) (fun k hk => b_X0_readLike_3 m0 sh rr r ww so pl qo pn tg px fa hb n hr  k hk) FU a3 a4 (0 : Int32) x sc bm _ hE hF)
def P_X4_readLine (m0 : Mnt) (sh : Nat → Nat) (rr : Nat → Ras) (r : Nat) (ww : Nat → Row) (so : Nat) (pl : Pal) (qo : Qoi) (pn : Pnm) (bm : Bmp) (tg : Tga) (px : Pcx) (fa : A) (hb : aH) (n : Nat) (res : Out (Ras × Src) Unit) : Option Value → aH → Nat → Prop := fun r1 h2 n2 => ∃ (a : Unit) (s : (Ras × Src)), res = fok a s ∧ r1 = none ∧ h2 = HC m0 sh (va_up rr r s.1) ww so s.2 pl qo pn bm tg px fa hb ∧ n = n2
def X_X4_readLine (m0 : Mnt) (sh : Nat → Nat) (rr : Nat → Ras) (r : Nat) (ww : Nat → Row) (so : Nat) (pl : Pal) (qo : Qoi) (pn : Pnm) (bm : Bmp) (tg : Tga) (px : Pcx) (fa : A) (hb : aH) (n : Nat) (res : Out (Ras × Src) Unit) : String → aH → Nat → Prop := fun E h2 n2 => ∃ s : (Ras × Src), res = fex E s ∧ h2 = HC m0 sh (va_up rr r s.1) ww so s.2 pl qo pn bm tg px fa hb ∧ n = n2
abbrev Q_X4_readLine_23 (m0 : Mnt) (sh : Nat → Nat) (rr : Nat → Ras) (r : Nat) (ww : Nat → Row) (so : Nat) (pl : Pal) (qo : Qoi) (pn : Pnm) (bm : Bmp) (tg : Tga) (px : Pcx) (fa : A) (hb : aH) (n : Nat) (k : Int32 → Int32 → Int32 → Int32 → Int32 → Ras → Src → Out (Ras × Src) Unit) : Prop := ∀ (v3 : Int32) (v4 : Int32) (v5 : Int32) (v6 : Int32) (v8 : Int32) (x : Ras) (sc : Src) (res : Out (Ras × Src) Unit), k v3 v4 v5 v6 v8 x sc = res → res ≠ fno → AW (fun _ _ => True) mX4_readLine (rmD 4 1 6) 0 0 (P_X4_readLine m0 sh rr r ww so pl qo pn bm tg px fa hb n res) (X_X4_readLine m0 sh rr r ww so pl qo pn bm tg px fa hb n res) 0 0 23 [(0, .ref 28), (1, .ref 16), (2, .ref r), (3, .int v3), (4, .int v4), (5, .int v5), (6, .int v6), (8, .int v8)] [] (HC m0 sh (va_up rr r x) ww so sc pl qo pn bm tg px fa hb) n
abbrev Q_X4_readLine_72 (m0 : Mnt) (sh : Nat → Nat) (rr : Nat → Ras) (r : Nat) (ww : Nat → Row) (so : Nat) (pl : Pal) (qo : Qoi) (pn : Pnm) (bm : Bmp) (tg : Tga) (px : Pcx) (fa : A) (hb : aH) (n : Nat) (k : Int32 → Ras → Src → Out (Ras × Src) Unit) : Prop := ∀ (v9 : Int32) (x : Ras) (sc : Src) (res : Out (Ras × Src) Unit), k v9 x sc = res → res ≠ fno → AW (fun _ _ => True) mX4_readLine (rmD 4 1 6) 0 0 (P_X4_readLine m0 sh rr r ww so pl qo pn bm tg px fa hb n res) (X_X4_readLine m0 sh rr r ww so pl qo pn bm tg px fa hb n res) 0 0 72 [(1, .ref 16), (9, .int v9)] [] (HC m0 sh (va_up rr r x) ww so sc pl qo pn bm tg px fa hb) n
abbrev Q_X4_readLine_93 (m0 : Mnt) (sh : Nat → Nat) (rr : Nat → Ras) (r : Nat) (ww : Nat → Row) (so : Nat) (pl : Pal) (qo : Qoi) (pn : Pnm) (bm : Bmp) (tg : Tga) (px : Pcx) (fa : A) (hb : aH) (n : Nat) (k : Int32 → Int32 → Int32 → Int32 → Int32 → Int32 → Int32 → Ras → Src → Out (Ras × Src) Unit) : Prop := ∀ (v3 : Int32) (v4 : Int32) (v5 : Int32) (v6 : Int32) (v7 : Int32) (v8 : Int32) (v10 : Int32) (x : Ras) (sc : Src) (res : Out (Ras × Src) Unit), k v3 v4 v5 v6 v7 v8 v10 x sc = res → res ≠ fno → AW (fun _ _ => True) mX4_readLine (rmD 4 1 6) 0 0 (P_X4_readLine m0 sh rr r ww so pl qo pn bm tg px fa hb n res) (X_X4_readLine m0 sh rr r ww so pl qo pn bm tg px fa hb n res) 0 0 93 [(0, .ref 28), (1, .ref 16), (2, .ref r), (3, .int v3), (4, .int v4), (5, .int v5), (6, .int v6), (7, .int v7), (8, .int v8), (10, .int v10)] [] (HC m0 sh (va_up rr r x) ww so sc pl qo pn bm tg px fa hb) n
abbrev Q_X4_readLine_96 (m0 : Mnt) (sh : Nat → Nat) (rr : Nat → Ras) (r : Nat) (ww : Nat → Row) (so : Nat) (pl : Pal) (qo : Qoi) (pn : Pnm) (bm : Bmp) (tg : Tga) (px : Pcx) (fa : A) (hb : aH) (n : Nat) (k : Int32 → Int32 → Int32 → Int32 → Int32 → Int32 → Int32 → Int32 → Ras → Src → Out (Ras × Src) Unit) : Prop := ∀ (v3 : Int32) (v4 : Int32) (v5 : Int32) (v6 : Int32) (v7 : Int32) (v8 : Int32) (v10 : Int32) (v11 : Int32) (x : Ras) (sc : Src) (res : Out (Ras × Src) Unit), k v3 v4 v5 v6 v7 v8 v10 v11 x sc = res → res ≠ fno → AW (fun _ _ => True) mX4_readLine (rmD 4 1 6) 0 0 (P_X4_readLine m0 sh rr r ww so pl qo pn bm tg px fa hb n res) (X_X4_readLine m0 sh rr r ww so pl qo pn bm tg px fa hb n res) 0 0 96 [(0, .ref 28), (1, .ref 16), (2, .ref r), (3, .int v3), (4, .int v4), (5, .int v5), (6, .int v6), (7, .int v7), (8, .int v8), (10, .int v10), (11, .int v11)] [] (HC m0 sh (va_up rr r x) ww so sc pl qo pn bm tg px fa hb) n
abbrev Q_X4_readLine_133 (m0 : Mnt) (sh : Nat → Nat) (rr : Nat → Ras) (r : Nat) (ww : Nat → Row) (so : Nat) (pl : Pal) (qo : Qoi) (pn : Pnm) (bm : Bmp) (tg : Tga) (px : Pcx) (fa : A) (hb : aH) (n : Nat) (k : Int32 → Int32 → Int32 → Int32 → Int32 → Int32 → Int32 → Int32 → Ras → Src → Out (Ras × Src) Unit) : Prop := ∀ (v3 : Int32) (v4 : Int32) (v5 : Int32) (v6 : Int32) (v7 : Int32) (v8 : Int32) (v10 : Int32) (v11 : Int32) (x : Ras) (sc : Src) (res : Out (Ras × Src) Unit), k v3 v4 v5 v6 v7 v8 v10 v11 x sc = res → res ≠ fno → AW (fun _ _ => True) mX4_readLine (rmD 4 1 6) 0 0 (P_X4_readLine m0 sh rr r ww so pl qo pn bm tg px fa hb n res) (X_X4_readLine m0 sh rr r ww so pl qo pn bm tg px fa hb n res) 0 0 133 [(0, .ref 28), (1, .ref 16), (2, .ref r), (3, .int v3), (4, .int v4), (5, .int v5), (6, .int v6), (7, .int v7), (8, .int v8), (10, .int v10), (11, .int v11)] [] (HC m0 sh (va_up rr r x) ww so sc pl qo pn bm tg px fa hb) n
def F_X4_readLine_133 (sb : A) (px : Pcx) (k23 : Int32 → Int32 → Int32 → Int32 → Int32 → Ras → Src → Out (Ras × Src) Unit) (k96 : Int32 → Int32 → Int32 → Int32 → Int32 → Int32 → Int32 → Int32 → Ras → Src → Out (Ras × Src) Unit) (v3 : Int32) (v4 : Int32) (v5 : Int32) (v6 : Int32) (v7 : Int32) (v8 : Int32) (v10 : Int32) (v11 : Int32) (x : Ras) (sc : Src) : Out (Ras × Src) Unit := k96 v3 v4 v5 v6 v7 v8 v10 (v11 + 1) x sc
set_option maxHeartbeats 1000000 in
set_option maxRecDepth 100000 in
theorem b_X4_readLine_133 (m0 : Mnt) (sh : Nat → Nat) (rr : Nat → Ras) (r : Nat) (ww : Nat → Row) (so : Nat) (pl : Pal) (qo : Qoi) (pn : Pnm) (bm : Bmp) (tg : Tga) (px : Pcx) (fa : A) (hb : aH) (n : Nat) (hr : isR r) (hso : isW so) (k23 : Int32 → Int32 → Int32 → Int32 → Int32 → Ras → Src → Out (Ras × Src) Unit) (hk23 : Q_X4_readLine_23 m0 sh rr r ww so pl qo pn bm tg px fa hb n k23) (k96 : Int32 → Int32 → Int32 → Int32 → Int32 → Int32 → Int32 → Int32 → Ras → Src → Out (Ras × Src) Unit) (hk96 : Q_X4_readLine_96 m0 sh rr r ww so pl qo pn bm tg px fa hb n k96) : Q_X4_readLine_133 m0 sh rr r ww so pl qo pn bm tg px fa hb n (F_X4_readLine_133 (y_b (ww so)) px k23 k96) := by
  intro v3 v4 v5 v6 v7 v8 v10 v11 x sc res hE hF
  unfold F_X4_readLine_133 at hE
  refine aw_iinc (v := (v11 + 1)) (lv2 := [(11, _), (0, _), (1, _), (2, _), (3, _), (4, _), (5, _), (6, _), (7, _), (8, _), (10, _)]) dX4_readLine_133 rfl (incE (by decide)) (by decide) rfl ?_
  refine aw_goto (tgt := 96) dX4_readLine_136 (by decide) ?_
  exact aw_lv _ (List.forall_mem_cons.mpr ⟨rfl, (List.forall_mem_cons.mpr ⟨rfl, (List.forall_mem_cons.mpr ⟨rfl, (List.forall_mem_cons.mpr ⟨rfl, (List.forall_mem_cons.mpr ⟨rfl, (List.forall_mem_cons.mpr ⟨rfl, (List.forall_mem_cons.mpr ⟨rfl, (List.forall_mem_cons.mpr ⟨rfl, (List.forall_mem_cons.mpr ⟨rfl, (List.forall_mem_cons.mpr ⟨rfl, (List.forall_mem_cons.mpr ⟨rfl, fun _ h => absurd h List.not_mem_nil⟩)⟩)⟩)⟩)⟩)⟩)⟩)⟩)⟩)⟩)⟩) (hk96 v3 v4 v5 v6 v7 v8 v10 (v11 + 1) x sc _ hE hF)
def F_X4_readLine_96 (sb : A) (px : Pcx) (k23 : Int32 → Int32 → Int32 → Int32 → Int32 → Ras → Src → Out (Ras × Src) Unit) (k96 : Int32 → Int32 → Int32 → Int32 → Int32 → Int32 → Int32 → Int32 → Ras → Src → Out (Ras × Src) Unit) (v3 : Int32) (v4 : Int32) (v5 : Int32) (v6 : Int32) (v7 : Int32) (v8 : Int32) (v10 : Int32) (v11 : Int32) (x : Ras) (sc : Src) : Out (Ras × Src) Unit := if v7 ≤ v11 then (k23 v3 v4 v5 v6 (v8 + v7) x sc) else (fon (F_X4_addBits v3 v5 v6 v10 x px) (fun z112 s112 => if (v6 + 1) = (px_step px) then (F_X4_readLine_133 sb px k23 k96 v3 v4 (v5 + 1) (0 : Int32) v7 v8 v10 v11 s112 sc) else (F_X4_readLine_133 sb px k23 k96 v3 v4 v5 (v6 + 1) v7 v8 v10 v11 s112 sc)) (fun _ _ => fno))
set_option maxHeartbeats 1000000 in
set_option maxRecDepth 100000 in
theorem b_X4_readLine_96 (m0 : Mnt) (sh : Nat → Nat) (rr : Nat → Ras) (r : Nat) (ww : Nat → Row) (so : Nat) (pl : Pal) (qo : Qoi) (pn : Pnm) (bm : Bmp) (tg : Tga) (px : Pcx) (fa : A) (hb : aH) (n : Nat) (hr : isR r) (hso : isW so) (k23 : Int32 → Int32 → Int32 → Int32 → Int32 → Ras → Src → Out (Ras × Src) Unit) (hk23 : Q_X4_readLine_23 m0 sh rr r ww so pl qo pn bm tg px fa hb n k23) (k96 : Int32 → Int32 → Int32 → Int32 → Int32 → Int32 → Int32 → Int32 → Ras → Src → Out (Ras × Src) Unit) (hk96 : Q_X4_readLine_96 m0 sh rr r ww so pl qo pn bm tg px fa hb n k96) : Q_X4_readLine_96 m0 sh rr r ww so pl qo pn bm tg px fa hb n (F_X4_readLine_96 (y_b (ww so)) px k23 k96) := by
  intro v3 v4 v5 v6 v7 v8 v10 v11 x sc res hE hF
  unfold F_X4_readLine_96 at hE
  refine aw_iload dX4_readLine_96 rfl ?_
  refine aw_iload dX4_readLine_98 rfl ?_
  refine aw_icmp_ge (tgt := 139) dX4_readLine_100 (by decide) (fun c100 => ?_) (fun c100 => ?_)
  · replace hE := fit hE c100
    refine aw_iload dX4_readLine_139 rfl ?_
    refine aw_iload dX4_readLine_141 rfl ?_
    refine aw_iadd dX4_readLine_143 ?_
    refine aw_istore (lv2 := [(8, _), (0, _), (1, _), (2, _), (3, _), (4, _), (5, _), (6, _), (7, _), (10, _), (11, _)]) dX4_readLine_144 (by decide) rfl ?_
    refine aw_goto (tgt := 23) dX4_readLine_146 (by decide) ?_
    exact aw_lv _ (List.forall_mem_cons.mpr ⟨rfl, (List.forall_mem_cons.mpr ⟨rfl, (List.forall_mem_cons.mpr ⟨rfl, (List.forall_mem_cons.mpr ⟨rfl, (List.forall_mem_cons.mpr ⟨rfl, (List.forall_mem_cons.mpr ⟨rfl, (List.forall_mem_cons.mpr ⟨rfl, (List.forall_mem_cons.mpr ⟨rfl, fun _ h => absurd h List.not_mem_nil⟩)⟩)⟩)⟩)⟩)⟩)⟩)⟩) (hk23 v3 v4 v5 v6 (v8 + v7) x sc _ hE hF)
  · replace hE := fif hE c100
    refine aw_aload_n dX4_readLine_103 rfl ?_
    refine aw_aload_n dX4_readLine_104 rfl ?_
    refine aw_iload_n dX4_readLine_105 rfl ?_
    refine aw_iload dX4_readLine_106 rfl ?_
    refine aw_iload dX4_readLine_108 rfl ?_
    refine aw_iload dX4_readLine_110 rfl ?_
    refine aw_callV dX4_readLine_112 at_pcx cvX4_124 rfl (kF_X4_addBits m0 sh rr r x ww so sc pl qo pn bm tg px fa hb _ hr v3 v5 v6 v10 (fon_ne hE hF)) rfl (Nat.le_of_ble_eq_true rfl) (by decide) (by decide) (by decide) (by decide) (fun _ _ _ hf => False.elim hf) (fun r112 h112 n112 hp112 => ?_)
    obtain ⟨z112, s112, e112, rfl, rfl, rfl⟩ := hp112
    replace hE := fon_ok e112 hE
    refine aw_iinc (v := (v6 + 1)) (lv2 := [(6, _), (0, _), (1, _), (2, _), (3, _), (4, _), (5, _), (7, _), (8, _), (10, _), (11, _)]) dX4_readLine_115 rfl (incE (by decide)) (by decide) rfl ?_
    refine aw_iload dX4_readLine_118 rfl ?_
    refine aw_aload_n dX4_readLine_120 rfl ?_
    refine aw_getf (v := .int (px_step px)) dX4_readLine_121 flX4_84_3 at_pcx rfl ?_
    refine aw_icmp_ne (tgt := 133) dX4_readLine_124 (by decide) (fun c124 => ?_) (fun c124 => ?_)
    · replace hE := fif hE c124
      exact aw_lv _ (List.forall_mem_cons.mpr ⟨rfl, (List.forall_mem_cons.mpr ⟨rfl, (List.forall_mem_cons.mpr ⟨rfl, (List.forall_mem_cons.mpr ⟨rfl, (List.forall_mem_cons.mpr ⟨rfl, (List.forall_mem_cons.mpr ⟨rfl, (List.forall_mem_cons.mpr ⟨rfl, (List.forall_mem_cons.mpr ⟨rfl, (List.forall_mem_cons.mpr ⟨rfl, (List.forall_mem_cons.mpr ⟨rfl, (List.forall_mem_cons.mpr ⟨rfl, fun _ h => absurd h List.not_mem_nil⟩)⟩)⟩)⟩)⟩)⟩)⟩)⟩)⟩)⟩)⟩) (b_X4_readLine_133 m0 sh rr r ww so pl qo pn bm tg px fa hb n hr hso k23 hk23 k96 hk96 v3 v4 v5 (v6 + 1) v7 v8 v10 v11 s112 sc _ hE hF)
    · replace hE := fit hE c124
      refine aw_iconst (v := 0) dX4_readLine_127 (by decide) ?_
      refine aw_istore (lv2 := [(6, _), (0, _), (1, _), (2, _), (3, _), (4, _), (5, _), (7, _), (8, _), (10, _), (11, _)]) dX4_readLine_128 (by decide) rfl ?_
      refine aw_iinc (v := (v5 + 1)) (lv2 := [(5, _), (6, _), (0, _), (1, _), (2, _), (3, _), (4, _), (7, _), (8, _), (10, _), (11, _)]) dX4_readLine_130 rfl (incE (by decide)) (by decide) rfl ?_
      exact aw_lv _ (List.forall_mem_cons.mpr ⟨rfl, (List.forall_mem_cons.mpr ⟨rfl, (List.forall_mem_cons.mpr ⟨rfl, (List.forall_mem_cons.mpr ⟨rfl, (List.forall_mem_cons.mpr ⟨rfl, (List.forall_mem_cons.mpr ⟨rfl, (List.forall_mem_cons.mpr ⟨rfl, (List.forall_mem_cons.mpr ⟨rfl, (List.forall_mem_cons.mpr ⟨rfl, (List.forall_mem_cons.mpr ⟨rfl, (List.forall_mem_cons.mpr ⟨rfl, fun _ h => absurd h List.not_mem_nil⟩)⟩)⟩)⟩)⟩)⟩)⟩)⟩)⟩)⟩)⟩) (b_X4_readLine_133 m0 sh rr r ww so pl qo pn bm tg px fa hb n hr hso k23 hk23 k96 hk96 v3 v4 (v5 + 1) (0 : Int32) v7 v8 v10 v11 s112 sc _ hE hF)
def F_X4_readLine_93 (sb : A) (px : Pcx) (k23 : Int32 → Int32 → Int32 → Int32 → Int32 → Ras → Src → Out (Ras × Src) Unit) (v3 : Int32) (v4 : Int32) (v5 : Int32) (v6 : Int32) (v7 : Int32) (v8 : Int32) (v10 : Int32) (x : Ras) (sc : Src) : Out (Ras × Src) Unit := lp (fun _ _ _ _ _ _ _ _ _ _ => fno) (F_X4_readLine_96 sb px k23) FU v3 v4 v5 v6 v7 v8 v10 (0 : Int32) x sc
set_option maxHeartbeats 1000000 in
set_option maxRecDepth 100000 in
theorem b_X4_readLine_93 (m0 : Mnt) (sh : Nat → Nat) (rr : Nat → Ras) (r : Nat) (ww : Nat → Row) (so : Nat) (pl : Pal) (qo : Qoi) (pn : Pnm) (bm : Bmp) (tg : Tga) (px : Pcx) (fa : A) (hb : aH) (n : Nat) (hr : isR r) (hso : isW so) (k23 : Int32 → Int32 → Int32 → Int32 → Int32 → Ras → Src → Out (Ras × Src) Unit) (hk23 : Q_X4_readLine_23 m0 sh rr r ww so pl qo pn bm tg px fa hb n k23) : Q_X4_readLine_93 m0 sh rr r ww so pl qo pn bm tg px fa hb n (F_X4_readLine_93 (y_b (ww so)) px k23) := by
  intro v3 v4 v5 v6 v7 v8 v10 x sc res hE hF
  unfold F_X4_readLine_93 at hE
  refine aw_iconst (v := 0) dX4_readLine_93 (by decide) ?_
  refine aw_istore (lv2 := [(11, _), (0, _), (1, _), (2, _), (3, _), (4, _), (5, _), (6, _), (7, _), (8, _), (10, _)]) dX4_readLine_94 (by decide) rfl ?_
  exact aw_lv _ (List.forall_mem_cons.mpr ⟨rfl, (List.forall_mem_cons.mpr ⟨rfl, (List.forall_mem_cons.mpr ⟨rfl, (List.forall_mem_cons.mpr ⟨rfl, (List.forall_mem_cons.mpr ⟨rfl, (List.forall_mem_cons.mpr ⟨rfl, (List.forall_mem_cons.mpr ⟨rfl, (List.forall_mem_cons.mpr ⟨rfl, (List.forall_mem_cons.mpr ⟨rfl, (List.forall_mem_cons.mpr ⟨rfl, (List.forall_mem_cons.mpr ⟨rfl, fun _ h => absurd h List.not_mem_nil⟩)⟩)⟩)⟩)⟩)⟩)⟩)⟩)⟩)⟩)⟩) (lp_ind (Q_X4_readLine_96 m0 sh rr r ww so pl qo pn bm tg px fa hb n) (fun _ _ _ _ _ _ _ _ _ _ res hq hF => (hF hq.symm).elim) (fun k hk => b_X4_readLine_96 m0 sh rr r ww so pl qo pn bm tg px fa hb n hr hso k23 hk23 k hk) FU v3 v4 v5 v6 v7 v8 v10 (0 : Int32) x sc _ hE hF)
def F_X4_readLine_72 (sb : A) (px : Pcx)  (v9 : Int32) (x : Ras) (sc : Src) : Out (Ras × Src) Unit := fon (F_X8_refuse 4 v9 sc) (fun _ _ => fno) (fun E s76 => fex E (x, s76))
set_option maxHeartbeats 1000000 in
set_option maxRecDepth 100000 in
theorem b_X4_readLine_72 (m0 : Mnt) (sh : Nat → Nat) (rr : Nat → Ras) (r : Nat) (ww : Nat → Row) (so : Nat) (pl : Pal) (qo : Qoi) (pn : Pnm) (bm : Bmp) (tg : Tga) (px : Pcx) (fa : A) (hb : aH) (n : Nat) (hr : isR r) (hso : isW so)  : Q_X4_readLine_72 m0 sh rr r ww so pl qo pn bm tg px fa hb n (F_X4_readLine_72 (y_b (ww so)) px) := by
  intro v9 x sc res hE hF
  unfold F_X4_readLine_72 at hE
  refine aw_aload_n dX4_readLine_72 rfl ?_
  refine aw_iconst (v := 4) dX4_readLine_73 (by decide) ?_
  refine aw_iload dX4_readLine_74 rfl ?_
  refine aw_callV dX4_readLine_76 at_src cvX4_100 rfl (kF_X8_refuse m0 sh (va_up rr r x) ww so sc pl qo pn bm tg px fa hb _  4 v9 (fon_ne hE hF)) rfl (Nat.le_of_ble_eq_true rfl) (by decide) (by decide) (by decide) (by decide) (fun E h2 n2 hx => aw_out rfl (by decide) (by decide) (by obtain ⟨s76, e76, rfl, rfl⟩ := hx; exact ⟨_, (fon_ex e76 hE).symm, rfl, rfl⟩)) (fun r76 h76 n76 hp76 => ?_)
  obtain ⟨z76, s76, e76, rfl, rfl, rfl⟩ := hp76
  exact (hF (fon_ok e76 hE).symm).elim
def F_X4_readLine_23 (sb : A) (px : Pcx) (k23 : Int32 → Int32 → Int32 → Int32 → Int32 → Ras → Src → Out (Ras × Src) Unit) (v3 : Int32) (v4 : Int32) (v5 : Int32) (v6 : Int32) (v8 : Int32) (x : Ras) (sc : Src) : Out (Ras × Src) Unit := if v4 ≤ v8 then (fok () (x, sc)) else (fon (F_X8_next sc sb) (fun z37 s37 => if z37 = 192 then (F_X4_readLine_72 sb px (sc_pos sc) x s37) else (if (iMax (z37 - 192) 1) ≤ (v4 - v8) then (if z37 ≤ 192 then (F_X4_readLine_93 sb px k23 v3 v4 v5 v6 (iMax (z37 - 192) 1) v8 z37 x s37) else (fon (F_X8_next s37 sb) (fun z88 s88 => F_X4_readLine_93 sb px k23 v3 v4 v5 v6 (iMax (z37 - 192) 1) v8 z88 x s88) (fun E s88 => fex E (x, s88)))) else (F_X4_readLine_72 sb px (sc_pos sc) x s37))) (fun E s37 => fex E (x, s37)))
set_option maxHeartbeats 1000000 in
set_option maxRecDepth 100000 in
theorem b_X4_readLine_23 (m0 : Mnt) (sh : Nat → Nat) (rr : Nat → Ras) (r : Nat) (ww : Nat → Row) (so : Nat) (pl : Pal) (qo : Qoi) (pn : Pnm) (bm : Bmp) (tg : Tga) (px : Pcx) (fa : A) (hb : aH) (n : Nat) (hr : isR r) (hso : isW so) (k23 : Int32 → Int32 → Int32 → Int32 → Int32 → Ras → Src → Out (Ras × Src) Unit) (hk23 : Q_X4_readLine_23 m0 sh rr r ww so pl qo pn bm tg px fa hb n k23) : Q_X4_readLine_23 m0 sh rr r ww so pl qo pn bm tg px fa hb n (F_X4_readLine_23 (y_b (ww so)) px k23) := by
  intro v3 v4 v5 v6 v8 x sc res hE hF
  unfold F_X4_readLine_23 at hE
  refine aw_iload dX4_readLine_23 rfl ?_
  refine aw_iload dX4_readLine_25 rfl ?_
  refine aw_icmp_ge (tgt := 149) dX4_readLine_27 (by decide) (fun c27 => ?_) (fun c27 => ?_)
  · replace hE := fit hE c27
    exact aw_vret dX4_readLine_149 rfl (Nat.zero_le _) (Nat.zero_le _) (Nat.zero_le _) (Nat.zero_le _) ⟨_, _, hE.symm, rfl, rfl, rfl⟩
  · replace hE := fif hE c27
    refine aw_aload_n dX4_readLine_30 rfl ?_
    refine aw_getf (v := .int (sc_pos sc)) dX4_readLine_31 flX4_90_7 at_src rfl ?_
    refine aw_istore (lv2 := [(9, _), (0, _), (1, _), (2, _), (3, _), (4, _), (5, _), (6, _), (8, _)]) dX4_readLine_34 (by decide) rfl ?_
    refine aw_aload_n dX4_readLine_36 rfl ?_
    refine aw_callV dX4_readLine_37 at_src cvX4_93 rfl (kF_X8_next m0 sh (va_up rr r x) ww so sc pl qo pn bm tg px fa hb _ hso  (fon_ne hE hF)) rfl (Nat.le_of_ble_eq_true rfl) (by decide) (by decide) (by decide) (by decide) (fun E h2 n2 hx => aw_out rfl (by decide) (by decide) (by obtain ⟨s37, e37, rfl, rfl⟩ := hx; exact ⟨_, (fon_ex e37 hE).symm, rfl, rfl⟩)) (fun r37 h37 n37 hp37 => ?_)
    obtain ⟨z37, s37, e37, rfl, rfl, rfl⟩ := hp37
    replace hE := fon_ok e37 hE
    refine aw_istore (lv2 := [(10, _), (9, _), (0, _), (1, _), (2, _), (3, _), (4, _), (5, _), (6, _), (8, _)]) dX4_readLine_40 (by decide) rfl ?_
    refine aw_iload dX4_readLine_42 rfl ?_
    refine aw_sipush (v := 192) dX4_readLine_44 (by decide) ?_
    refine aw_isub dX4_readLine_47 ?_
    refine aw_iconst (v := 1) dX4_readLine_48 (by decide) ?_
    refine aw_mmax dX4_readLine_49 csX4_118.1.1 csX4_118.2 csX4_118.1.2.1 csX4_118.1.2.2.1 (by decide) (Nat.le_of_ble_eq_true rfl) (Nat.zero_le _) (Nat.zero_le _) ?_
    refine aw_istore (lv2 := [(7, _), (10, _), (9, _), (0, _), (1, _), (2, _), (3, _), (4, _), (5, _), (6, _), (8, _)]) dX4_readLine_52 (by decide) rfl ?_
    refine aw_iload dX4_readLine_54 rfl ?_
    refine aw_sipush (v := 192) dX4_readLine_56 (by decide) ?_
    refine aw_icmp_eq (tgt := 72) dX4_readLine_59 (by decide) (fun c59 => ?_) (fun c59 => ?_)
    · replace hE := fit hE c59
      exact aw_lv _ (List.forall_mem_cons.mpr ⟨rfl, (List.forall_mem_cons.mpr ⟨rfl, fun _ h => absurd h List.not_mem_nil⟩)⟩) (b_X4_readLine_72 m0 sh rr r ww so pl qo pn bm tg px fa hb n hr hso  (sc_pos sc) x s37 _ hE hF)
    · replace hE := fif hE c59
      refine aw_iload dX4_readLine_62 rfl ?_
      refine aw_iload dX4_readLine_64 rfl ?_
      refine aw_iload dX4_readLine_66 rfl ?_
      refine aw_isub dX4_readLine_68 ?_
      refine aw_icmp_le (tgt := 79) dX4_readLine_69 (by decide) (fun c69 => ?_) (fun c69 => ?_)
      · replace hE := fit hE c69
        refine aw_iload dX4_readLine_79 rfl ?_
        refine aw_sipush (v := 192) dX4_readLine_81 (by decide) ?_
        refine aw_icmp_le (tgt := 93) dX4_readLine_84 (by decide) (fun c84 => ?_) (fun c84 => ?_)
        · replace hE := fit hE c84
          exact aw_lv _ (List.forall_mem_cons.mpr ⟨rfl, (List.forall_mem_cons.mpr ⟨rfl, (List.forall_mem_cons.mpr ⟨rfl, (List.forall_mem_cons.mpr ⟨rfl, (List.forall_mem_cons.mpr ⟨rfl, (List.forall_mem_cons.mpr ⟨rfl, (List.forall_mem_cons.mpr ⟨rfl, (List.forall_mem_cons.mpr ⟨rfl, (List.forall_mem_cons.mpr ⟨rfl, (List.forall_mem_cons.mpr ⟨rfl, fun _ h => absurd h List.not_mem_nil⟩)⟩)⟩)⟩)⟩)⟩)⟩)⟩)⟩)⟩) (b_X4_readLine_93 m0 sh rr r ww so pl qo pn bm tg px fa hb n hr hso k23 hk23 v3 v4 v5 v6 (iMax (z37 - 192) 1) v8 z37 x s37 _ hE hF)
        · replace hE := fif hE c84
          refine aw_aload_n dX4_readLine_87 rfl ?_
          refine aw_callV dX4_readLine_88 at_src cvX4_93 rfl (kF_X8_next m0 sh (va_up rr r x) ww so s37 pl qo pn bm tg px fa hb _ hso  (fon_ne hE hF)) rfl (Nat.le_of_ble_eq_true rfl) (by decide) (by decide) (by decide) (by decide) (fun E h2 n2 hx => aw_out rfl (by decide) (by decide) (by obtain ⟨s88, e88, rfl, rfl⟩ := hx; exact ⟨_, (fon_ex e88 hE).symm, rfl, rfl⟩)) (fun r88 h88 n88 hp88 => ?_)
          obtain ⟨z88, s88, e88, rfl, rfl, rfl⟩ := hp88
          replace hE := fon_ok e88 hE
          refine aw_istore (lv2 := [(10, _), (7, _), (9, _), (0, _), (1, _), (2, _), (3, _), (4, _), (5, _), (6, _), (8, _)]) dX4_readLine_91 (by decide) rfl ?_
          exact aw_lv _ (List.forall_mem_cons.mpr ⟨rfl, (List.forall_mem_cons.mpr ⟨rfl, (List.forall_mem_cons.mpr ⟨rfl, (List.forall_mem_cons.mpr ⟨rfl, (List.forall_mem_cons.mpr ⟨rfl, (List.forall_mem_cons.mpr ⟨rfl, (List.forall_mem_cons.mpr ⟨rfl, (List.forall_mem_cons.mpr ⟨rfl, (List.forall_mem_cons.mpr ⟨rfl, (List.forall_mem_cons.mpr ⟨rfl, fun _ h => absurd h List.not_mem_nil⟩)⟩)⟩)⟩)⟩)⟩)⟩)⟩)⟩)⟩) (b_X4_readLine_93 m0 sh rr r ww so pl qo pn bm tg px fa hb n hr hso k23 hk23 v3 v4 v5 v6 (iMax (z37 - 192) 1) v8 z88 x s88 _ hE hF)
      · replace hE := fif hE c69
        exact aw_lv _ (List.forall_mem_cons.mpr ⟨rfl, (List.forall_mem_cons.mpr ⟨rfl, fun _ h => absurd h List.not_mem_nil⟩)⟩) (b_X4_readLine_72 m0 sh rr r ww so pl qo pn bm tg px fa hb n hr hso  (sc_pos sc) x s37 _ hE hF)
def F_X4_readLine (a3 : Int32) (x : Ras) (sc : Src) (sb : A) (px : Pcx) : Out (Ras × Src) Unit := lp (fun _ _ _ _ _ _ _ => fno) (F_X4_readLine_23 sb px) FU a3 ((px_planes px) * (px_step px)) (0 : Int32) (0 : Int32) (0 : Int32) x sc
set_option maxHeartbeats 1000000 in
set_option maxRecDepth 100000 in
theorem kF_X4_readLine (m0 : Mnt) (sh : Nat → Nat) (rr : Nat → Ras) (r : Nat) (x : Ras) (ww : Nat → Row) (so : Nat) (sc : Src) (pl : Pal) (qo : Qoi) (pn : Pnm) (bm : Bmp) (tg : Tga) (px : Pcx) (fa : A) (hb : aH) (n : Nat) (hr : isR r) (hso : isW so) (a3 : Int32) (hF : F_X4_readLine a3 x sc (y_b (ww so)) px ≠ fno) : AM mX4_readLine 4 [.ref 28, .ref 16, .ref r, .int a3] (HC m0 sh (va_up rr r x) ww so sc pl qo pn bm tg px fa hb) n 1 6 0 0 (P_X4_readLine m0 sh rr r ww so pl qo pn bm tg px fa hb n (F_X4_readLine a3 x sc (y_b (ww so)) px)) (X_X4_readLine m0 sh rr r ww so pl qo pn bm tg px fa hb n (F_X4_readLine a3 x sc (y_b (ww so)) px)) := by
  generalize hE : F_X4_readLine a3 x sc (y_b (ww so)) px = res at hF ⊢
  refine aw_of (by decide +kernel) rfl (Nat.le_of_ble_eq_true rfl) ?_
  unfold F_X4_readLine at hE
  refine aw_aload_n dX4_readLine_0 rfl ?_
  refine aw_getf (v := .int (px_planes px)) dX4_readLine_1 flX4_68_3 at_pcx rfl ?_
  refine aw_aload_n dX4_readLine_4 rfl ?_
  refine aw_getf (v := .int (px_step px)) dX4_readLine_5 flX4_84_3 at_pcx rfl ?_
  refine aw_imul dX4_readLine_8 ?_
  refine aw_istore (lv2 := [(4, _), (0, _), (1, _), (2, _), (3, _)]) dX4_readLine_9 (by decide) rfl ?_
  refine aw_iconst (v := 0) dX4_readLine_11 (by decide) ?_
  refine aw_istore (lv2 := [(5, _), (4, _), (0, _), (1, _), (2, _), (3, _)]) dX4_readLine_12 (by decide) rfl ?_
  refine aw_iconst (v := 0) dX4_readLine_14 (by decide) ?_
  refine aw_istore (lv2 := [(6, _), (5, _), (4, _), (0, _), (1, _), (2, _), (3, _)]) dX4_readLine_15 (by decide) rfl ?_
  refine aw_iconst (v := 1) dX4_readLine_17 (by decide) ?_
  refine aw_istore (lv2 := [(7, _), (6, _), (5, _), (4, _), (0, _), (1, _), (2, _), (3, _)]) dX4_readLine_18 (by decide) rfl ?_
  refine aw_iconst (v := 0) dX4_readLine_20 (by decide) ?_
  refine aw_istore (lv2 := [(8, _), (7, _), (6, _), (5, _), (4, _), (0, _), (1, _), (2, _), (3, _)]) dX4_readLine_21 (by decide) rfl ?_
  exact aw_lv _ (List.forall_mem_cons.mpr ⟨rfl, (List.forall_mem_cons.mpr ⟨rfl, (List.forall_mem_cons.mpr ⟨rfl, (List.forall_mem_cons.mpr ⟨rfl, (List.forall_mem_cons.mpr ⟨rfl, (List.forall_mem_cons.mpr ⟨rfl, (List.forall_mem_cons.mpr ⟨rfl, (List.forall_mem_cons.mpr ⟨rfl, fun _ h => absurd h List.not_mem_nil⟩)⟩)⟩)⟩)⟩)⟩)⟩)⟩) (lp_ind (Q_X4_readLine_23 m0 sh rr r ww so pl qo pn bm tg px fa hb n) (fun _ _ _ _ _ _ _ res hq hF => (hF hq.symm).elim) (fun k hk => b_X4_readLine_23 m0 sh rr r ww so pl qo pn bm tg px fa hb n hr hso  k hk) FU a3 ((px_planes px) * (px_step px)) (0 : Int32) (0 : Int32) (0 : Int32) x sc _ hE hF)
def P_X5_passGap (m0 : Mnt) (sh : Nat → Nat) (rr : Nat → Ras) (ww : Nat → Row) (so : Nat) (pl : Pal) (qo : Qoi) (pn : Pnm) (bm : Bmp) (tg : Tga) (px : Pcx) (fa : A) (hb : aH) (n : Nat) (res : Out Src Unit) : Option Value → aH → Nat → Prop := fun r1 h2 n2 => ∃ (a : Unit) (s : Src), res = fok a s ∧ r1 = none ∧ h2 = HC m0 sh rr ww so s pl qo pn bm tg px fa hb ∧ n = n2
def X_X5_passGap (m0 : Mnt) (sh : Nat → Nat) (rr : Nat → Ras) (ww : Nat → Row) (so : Nat) (pl : Pal) (qo : Qoi) (pn : Pnm) (bm : Bmp) (tg : Tga) (px : Pcx) (fa : A) (hb : aH) (n : Nat) (res : Out Src Unit) : String → aH → Nat → Prop := fun E h2 n2 => ∃ s : Src, res = fex E s ∧ h2 = HC m0 sh rr ww so s pl qo pn bm tg px fa hb ∧ n = n2
abbrev Q_X5_passGap_41 (m0 : Mnt) (sh : Nat → Nat) (rr : Nat → Ras) (ww : Nat → Row) (so : Nat) (pl : Pal) (qo : Qoi) (pn : Pnm) (bm : Bmp) (tg : Tga) (px : Pcx) (fa : A) (hb : aH) (n : Nat) (k : Src → Out Src Unit) : Prop := ∀ (sc : Src) (res : Out Src Unit), k sc = res → res ≠ fno → AW (fun _ _ => True) mX5_passGap (rmD 4 1 6) 0 0 (P_X5_passGap m0 sh rr ww so pl qo pn bm tg px fa hb n res) (X_X5_passGap m0 sh rr ww so pl qo pn bm tg px fa hb n res) 0 0 41 [(0, .ref 16)] [] (HC m0 sh rr ww so sc pl qo pn bm tg px fa hb) n
def F_X5_passGap_41 (sb : A)  (sc : Src) : Out Src Unit := fon (F_X5_passBlanks sc sb) (fun z42 s42 => fok () s42) (fun _ _ => fno)
set_option maxHeartbeats 1000000 in
set_option maxRecDepth 100000 in
theorem b_X5_passGap_41 (m0 : Mnt) (sh : Nat → Nat) (rr : Nat → Ras) (ww : Nat → Row) (so : Nat) (pl : Pal) (qo : Qoi) (pn : Pnm) (bm : Bmp) (tg : Tga) (px : Pcx) (fa : A) (hb : aH) (n : Nat) (hso : isW so)  : Q_X5_passGap_41 m0 sh rr ww so pl qo pn bm tg px fa hb n (F_X5_passGap_41 (y_b (ww so))) := by
  intro sc res hE hF
  unfold F_X5_passGap_41 at hE
  refine aw_aload_n dX5_passGap_41 rfl ?_
  refine aw_callS dX5_passGap_42  csX5_62 rfl (kF_X5_passBlanks m0 sh rr ww so sc pl qo pn bm tg px fa hb _ hso  (fon_ne hE hF)) rfl (Nat.le_of_ble_eq_true rfl) (by decide) (by decide) (by decide) (by decide) (fun _ _ _ hf => False.elim hf) (fun r42 h42 n42 hp42 => ?_)
  obtain ⟨z42, s42, e42, rfl, rfl, rfl⟩ := hp42
  replace hE := fon_ok e42 hE
  exact aw_vret dX5_passGap_45 rfl (Nat.zero_le _) (Nat.zero_le _) (Nat.zero_le _) (Nat.zero_le _) ⟨_, _, hE.symm, rfl, rfl, rfl⟩
def F_X5_passGap (sc : Src) (sb : A) : Out Src Unit := fon (F_X8_peek sc sb) (fun z1 s1 => if z1 = (-1) then (fon (F_X8_refuse 1 (sc_size sc) sc) (fun _ _ => fno) (fun E s16 => fex E s16)) else (if (F_X5_isBlank z1) = 0 then (if z1 = 35 then (F_X5_passGap_41 sb sc) else (fon (F_X8_refuse 2 (sc_pos sc) sc) (fun _ _ => fno) (fun E s38 => fex E s38))) else (F_X5_passGap_41 sb sc))) (fun _ _ => fno)
set_option maxHeartbeats 1000000 in
set_option maxRecDepth 100000 in
theorem kF_X5_passGap (m0 : Mnt) (sh : Nat → Nat) (rr : Nat → Ras) (ww : Nat → Row) (so : Nat) (sc : Src) (pl : Pal) (qo : Qoi) (pn : Pnm) (bm : Bmp) (tg : Tga) (px : Pcx) (fa : A) (hb : aH) (n : Nat) (hso : isW so)  (hF : F_X5_passGap sc (y_b (ww so)) ≠ fno) : AM mX5_passGap 4 [.ref 16] (HC m0 sh rr ww so sc pl qo pn bm tg px fa hb) n 1 6 0 0 (P_X5_passGap m0 sh rr ww so pl qo pn bm tg px fa hb n (F_X5_passGap sc (y_b (ww so)))) (X_X5_passGap m0 sh rr ww so pl qo pn bm tg px fa hb n (F_X5_passGap sc (y_b (ww so)))) := by
  generalize hE : F_X5_passGap sc (y_b (ww so)) = res at hF ⊢
  refine aw_of (by decide +kernel) rfl (Nat.le_of_ble_eq_true rfl) ?_
  unfold F_X5_passGap at hE
  refine aw_aload_n dX5_passGap_0 rfl ?_
  refine aw_callV dX5_passGap_1 at_src cvX5_88 rfl (kF_X8_peek m0 sh rr ww so sc pl qo pn bm tg px fa hb _ hso  (fon_ne hE hF)) rfl (Nat.le_of_ble_eq_true rfl) (by decide) (by decide) (by decide) (by decide) (fun _ _ _ hf => False.elim hf) (fun r1 h1 n1 hp1 => ?_)
  obtain ⟨z1, s1, e1, rfl, rfl, rfl⟩ := hp1
  replace hE := fon_ok e1 hE
  refine aw_istore_n (lv2 := [(1, _), (0, _)]) dX5_passGap_4 (by decide) rfl ?_
  refine aw_iload_n dX5_passGap_5 rfl ?_
  refine aw_iconst (v := (-1)) dX5_passGap_6 (by decide) ?_
  refine aw_icmp_ne (tgt := 19) dX5_passGap_7 (by decide) (fun c7 => ?_) (fun c7 => ?_)
  · replace hE := fif hE c7
    refine aw_iload_n dX5_passGap_19 rfl ?_
    refine aw_callS dX5_passGap_20  csX5_84 rfl (kF_X5_isBlank _ _ z1) rfl (Nat.le_of_ble_eq_true rfl) (by decide) (by decide) (by decide) (by decide) (fun _ _ _ hf => False.elim hf) (fun r20 h20 n20 hp20 => ?_)
    obtain ⟨rfl, rfl, rfl⟩ := hp20
    refine aw_if_ne (tgt := 41) dX5_passGap_23 (by decide) (fun c23 => ?_) (fun c23 => ?_)
    · replace hE := fif hE c23
      exact aw_lv _ (List.forall_mem_cons.mpr ⟨rfl, fun _ h => absurd h List.not_mem_nil⟩) (b_X5_passGap_41 m0 sh rr ww so pl qo pn bm tg px fa hb n hso  sc _ hE hF)
    · replace hE := fit hE c23
      refine aw_iload_n dX5_passGap_26 rfl ?_
      refine aw_bipush (v := 35) dX5_passGap_27 (by decide) ?_
      refine aw_icmp_eq (tgt := 41) dX5_passGap_29 (by decide) (fun c29 => ?_) (fun c29 => ?_)
      · replace hE := fit hE c29
        exact aw_lv _ (List.forall_mem_cons.mpr ⟨rfl, fun _ h => absurd h List.not_mem_nil⟩) (b_X5_passGap_41 m0 sh rr ww so pl qo pn bm tg px fa hb n hso  sc _ hE hF)
      · replace hE := fif hE c29
        refine aw_aload_n dX5_passGap_32 rfl ?_
        refine aw_iconst (v := 2) dX5_passGap_33 (by decide) ?_
        refine aw_aload_n dX5_passGap_34 rfl ?_
        refine aw_getf (v := .int (sc_pos sc)) dX5_passGap_35 flX5_47_7 at_src rfl ?_
        refine aw_callV dX5_passGap_38 at_src cvX5_72 rfl (kF_X8_refuse m0 sh rr ww so sc pl qo pn bm tg px fa hb _  2 (sc_pos sc) (fon_ne hE hF)) rfl (Nat.le_of_ble_eq_true rfl) (by decide) (by decide) (by decide) (by decide) (fun E h2 n2 hx => aw_out rfl (by decide) (by decide) (by obtain ⟨s38, e38, rfl, rfl⟩ := hx; exact ⟨_, (fon_ex e38 hE).symm, rfl, rfl⟩)) (fun r38 h38 n38 hp38 => ?_)
        obtain ⟨z38, s38, e38, rfl, rfl, rfl⟩ := hp38
        exact (hF (fon_ok e38 hE).symm).elim
  · replace hE := fit hE c7
    refine aw_aload_n dX5_passGap_10 rfl ?_
    refine aw_iconst (v := 1) dX5_passGap_11 (by decide) ?_
    refine aw_aload_n dX5_passGap_12 rfl ?_
    refine aw_getf (v := .int (sc_size sc)) dX5_passGap_13 flX5_91_7 at_src rfl ?_
    refine aw_callV dX5_passGap_16 at_src cvX5_72 rfl (kF_X8_refuse m0 sh rr ww so sc pl qo pn bm tg px fa hb _  1 (sc_size sc) (fon_ne hE hF)) rfl (Nat.le_of_ble_eq_true rfl) (by decide) (by decide) (by decide) (by decide) (fun E h2 n2 hx => aw_out rfl (by decide) (by decide) (by obtain ⟨s16, e16, rfl, rfl⟩ := hx; exact ⟨_, (fon_ex e16 hE).symm, rfl, rfl⟩)) (fun r16 h16 n16 hp16 => ?_)
    obtain ⟨z16, s16, e16, rfl, rfl, rfl⟩ := hp16
    exact (hF (fon_ok e16 hE).symm).elim
def P_X5_readNumber (m0 : Mnt) (sh : Nat → Nat) (rr : Nat → Ras) (ww : Nat → Row) (so : Nat) (pl : Pal) (qo : Qoi) (bm : Bmp) (tg : Tga) (px : Pcx) (fa : A) (hb : aH) (n : Nat) (res : Out (Src × Pnm) Int32) : Option Value → aH → Nat → Prop := fun r1 h2 n2 => ∃ (a : Int32) (s : (Src × Pnm)), res = fok a s ∧ r1 = some (.int a) ∧ h2 = HC m0 sh rr ww so s.1 pl qo s.2 bm tg px fa hb ∧ n = n2
def X_X5_readNumber (m0 : Mnt) (sh : Nat → Nat) (rr : Nat → Ras) (ww : Nat → Row) (so : Nat) (pl : Pal) (qo : Qoi) (bm : Bmp) (tg : Tga) (px : Pcx) (fa : A) (hb : aH) (n : Nat) (res : Out (Src × Pnm) Int32) : String → aH → Nat → Prop := fun E h2 n2 => ∃ s : (Src × Pnm), res = fex E s ∧ h2 = HC m0 sh rr ww so s.1 pl qo s.2 bm tg px fa hb ∧ n = n2
abbrev Q_X5_readNumber_34 (m0 : Mnt) (sh : Nat → Nat) (rr : Nat → Ras) (ww : Nat → Row) (so : Nat) (pl : Pal) (qo : Qoi) (bm : Bmp) (tg : Tga) (px : Pcx) (fa : A) (hb : aH) (n : Nat) (k : Int32 → Src → Pnm → Out (Src × Pnm) Int32) : Prop := ∀ (v3 : Int32) (sc : Src) (pn : Pnm) (res : Out (Src × Pnm) Int32), k v3 sc pn = res → res ≠ fno → AW (fun _ _ => True) mX5_readNumber (rmD 4 1 6) 0 0 (P_X5_readNumber m0 sh rr ww so pl qo bm tg px fa hb n res) (X_X5_readNumber m0 sh rr ww so pl qo bm tg px fa hb n res) 0 0 34 [(1, .ref 16), (3, .int v3)] [] (HC m0 sh rr ww so sc pl qo pn bm tg px fa hb) n
abbrev Q_X5_readNumber_86 (m0 : Mnt) (sh : Nat → Nat) (rr : Nat → Ras) (ww : Nat → Row) (so : Nat) (pl : Pal) (qo : Qoi) (bm : Bmp) (tg : Tga) (px : Pcx) (fa : A) (hb : aH) (n : Nat) (k : Int32 → Src → Pnm → Out (Src × Pnm) Int32) : Prop := ∀ (v3 : Int32) (sc : Src) (pn : Pnm) (res : Out (Src × Pnm) Int32), k v3 sc pn = res → res ≠ fno → AW (fun _ _ => True) mX5_readNumber (rmD 4 1 6) 0 0 (P_X5_readNumber m0 sh rr ww so pl qo bm tg px fa hb n res) (X_X5_readNumber m0 sh rr ww so pl qo bm tg px fa hb n res) 0 0 86 [(3, .int v3)] [] (HC m0 sh rr ww so sc pl qo pn bm tg px fa hb) n
def F_X5_readNumber_86 (sb : A)  (v3 : Int32) (sc : Src) (pn : Pnm) : Out (Src × Pnm) Int32 := fok (v3 : Int32) (sc, pn)
set_option maxHeartbeats 1000000 in
set_option maxRecDepth 100000 in
theorem b_X5_readNumber_86 (m0 : Mnt) (sh : Nat → Nat) (rr : Nat → Ras) (ww : Nat → Row) (so : Nat) (pl : Pal) (qo : Qoi) (bm : Bmp) (tg : Tga) (px : Pcx) (fa : A) (hb : aH) (n : Nat) (hso : isW so)  : Q_X5_readNumber_86 m0 sh rr ww so pl qo bm tg px fa hb n (F_X5_readNumber_86 (y_b (ww so))) := by
  intro v3 sc pn res hE hF
  unfold F_X5_readNumber_86 at hE
  refine aw_iload_n dX5_readNumber_86 rfl ?_
  exact aw_iret dX5_readNumber_87 rfl (Nat.zero_le _) (Nat.zero_le _) (Nat.zero_le _) (Nat.zero_le _) ⟨_, _, hE.symm, rfl, rfl, rfl⟩
def F_X5_readNumber_34 (sb : A) (k34 : Int32 → Src → Pnm → Out (Src × Pnm) Int32) (v3 : Int32) (sc : Src) (pn : Pnm) : Out (Src × Pnm) Int32 := if (sc_size sc) ≤ (sc_pos sc) then (F_X5_readNumber_86 sb v3 sc pn) else (fon (F_X8_peek sc sb) (fun z46 s46 => if (F_X5_isDigit z46) = 0 then (F_X5_readNumber_86 sb v3 sc pn) else (fon (F_X8_peek sc sb) (fun z60 s60 => k34 (iMin (((10 * v3) + z60) - 48) 1000000) ((sc_size sc), ((sc_pos sc) + 1), (sc_ft sc), (sc_fp sc)) pn) (fun _ _ => fno))) (fun _ _ => fno))
set_option maxHeartbeats 1000000 in
set_option maxRecDepth 100000 in
theorem b_X5_readNumber_34 (m0 : Mnt) (sh : Nat → Nat) (rr : Nat → Ras) (ww : Nat → Row) (so : Nat) (pl : Pal) (qo : Qoi) (bm : Bmp) (tg : Tga) (px : Pcx) (fa : A) (hb : aH) (n : Nat) (hso : isW so) (k34 : Int32 → Src → Pnm → Out (Src × Pnm) Int32) (hk34 : Q_X5_readNumber_34 m0 sh rr ww so pl qo bm tg px fa hb n k34) : Q_X5_readNumber_34 m0 sh rr ww so pl qo bm tg px fa hb n (F_X5_readNumber_34 (y_b (ww so)) k34) := by
  intro v3 sc pn res hE hF
  unfold F_X5_readNumber_34 at hE
  refine aw_aload_n dX5_readNumber_34 rfl ?_
  refine aw_getf (v := .int (sc_pos sc)) dX5_readNumber_35 flX5_47_7 at_src rfl ?_
  refine aw_aload_n dX5_readNumber_38 rfl ?_
  refine aw_getf (v := .int (sc_size sc)) dX5_readNumber_39 flX5_91_7 at_src rfl ?_
  refine aw_icmp_ge (tgt := 86) dX5_readNumber_42 (by decide) (fun c42 => ?_) (fun c42 => ?_)
  · replace hE := fit hE c42
    exact aw_lv _ (List.forall_mem_cons.mpr ⟨rfl, fun _ h => absurd h List.not_mem_nil⟩) (b_X5_readNumber_86 m0 sh rr ww so pl qo bm tg px fa hb n hso  v3 sc pn _ hE hF)
  · replace hE := fif hE c42
    refine aw_aload_n dX5_readNumber_45 rfl ?_
    refine aw_callV dX5_readNumber_46 at_src cvX5_88 rfl (kF_X8_peek m0 sh rr ww so sc pl qo pn bm tg px fa hb _ hso  (fon_ne hE hF)) rfl (Nat.le_of_ble_eq_true rfl) (by decide) (by decide) (by decide) (by decide) (fun _ _ _ hf => False.elim hf) (fun r46 h46 n46 hp46 => ?_)
    obtain ⟨z46, s46, e46, rfl, rfl, rfl⟩ := hp46
    replace hE := fon_ok e46 hE
    refine aw_callS dX5_readNumber_49  csX5_94 rfl (kF_X5_isDigit _ _ z46) rfl (Nat.le_of_ble_eq_true rfl) (by decide) (by decide) (by decide) (by decide) (fun _ _ _ hf => False.elim hf) (fun r49 h49 n49 hp49 => ?_)
    obtain ⟨rfl, rfl, rfl⟩ := hp49
    refine aw_if_eq (tgt := 86) dX5_readNumber_52 (by decide) (fun c52 => ?_) (fun c52 => ?_)
    · replace hE := fit hE c52
      exact aw_lv _ (List.forall_mem_cons.mpr ⟨rfl, fun _ h => absurd h List.not_mem_nil⟩) (b_X5_readNumber_86 m0 sh rr ww so pl qo bm tg px fa hb n hso  v3 sc pn _ hE hF)
    · replace hE := fif hE c52
      refine aw_bipush (v := 10) dX5_readNumber_55 (by decide) ?_
      refine aw_iload_n dX5_readNumber_57 rfl ?_
      refine aw_imul dX5_readNumber_58 ?_
      refine aw_aload_n dX5_readNumber_59 rfl ?_
      refine aw_callV dX5_readNumber_60 at_src cvX5_88 rfl (kF_X8_peek m0 sh rr ww so sc pl qo pn bm tg px fa hb _ hso  (fon_ne hE hF)) rfl (Nat.le_of_ble_eq_true rfl) (by decide) (by decide) (by decide) (by decide) (fun _ _ _ hf => False.elim hf) (fun r60 h60 n60 hp60 => ?_)
      obtain ⟨z60, s60, e60, rfl, rfl, rfl⟩ := hp60
      replace hE := fon_ok e60 hE
      refine aw_iadd dX5_readNumber_63 ?_
      refine aw_bipush (v := 48) dX5_readNumber_64 (by decide) ?_
      refine aw_isub dX5_readNumber_66 ?_
      refine aw_ldc dX5_readNumber_67 kcX5_76 ?_
      refine aw_mmin dX5_readNumber_69 csX5_97.1.1 csX5_97.2 csX5_97.1.2.1 csX5_97.1.2.2.1 (by decide) (Nat.le_of_ble_eq_true rfl) (Nat.zero_le _) (Nat.zero_le _) ?_
      refine aw_istore_n (lv2 := [(3, _), (1, _)]) dX5_readNumber_72 (by decide) rfl ?_
      refine aw_aload_n dX5_readNumber_73 rfl ?_
      refine aw_dup dX5_readNumber_74 rfl ?_
      refine aw_getf (v := .int (sc_pos sc)) dX5_readNumber_75 flX5_47_7 at_src rfl ?_
      refine aw_iconst (v := 1) dX5_readNumber_78 (by decide) ?_
      refine aw_iadd dX5_readNumber_79 ?_
      refine aw_putf dX5_readNumber_80 ptX5_47_7 at_src (Nat.le_of_ble_eq_true rfl) ⟨rfl, rfl⟩ ?_
      refine aw_eqh (h2 := HC m0 sh rr ww so ((sc_size sc), ((sc_pos sc) + 1), (sc_ft sc), (sc_fp sc)) pl qo pn bm tg px fa hb) up_src ?_
      refine aw_goto (tgt := 34) dX5_readNumber_83 (by decide) ?_
      exact aw_lv _ (List.forall_mem_cons.mpr ⟨rfl, (List.forall_mem_cons.mpr ⟨rfl, fun _ h => absurd h List.not_mem_nil⟩)⟩) (hk34 (iMin (((10 * v3) + z60) - 48) 1000000) ((sc_size sc), ((sc_pos sc) + 1), (sc_ft sc), (sc_fp sc)) pn _ hE hF)
def F_X5_readNumber (sc : Src) (sb : A) (pn : Pnm) : Out (Src × Pnm) Int32 := fon (F_X8_next sc sb) (fun z9 s9 => if (F_X5_isDigit z9) = 0 then (fon (F_X8_refuse 2 (sc_pos sc) s9) (fun _ _ => fno) (fun E s26 => fex E (s26, ((pn_f1 pn), (pn_f2 pn), (pn_f3 pn), (sc_pos sc))))) else (lp (fun _ _ _ => fno) (F_X5_readNumber_34 sb) FU (z9 - 48) s9 ((pn_f1 pn), (pn_f2 pn), (pn_f3 pn), (sc_pos sc)))) (fun E s9 => fex E (s9, ((pn_f1 pn), (pn_f2 pn), (pn_f3 pn), (sc_pos sc))))
set_option maxHeartbeats 1000000 in
set_option maxRecDepth 100000 in
theorem kF_X5_readNumber (m0 : Mnt) (sh : Nat → Nat) (rr : Nat → Ras) (ww : Nat → Row) (so : Nat) (sc : Src) (pl : Pal) (qo : Qoi) (pn : Pnm) (bm : Bmp) (tg : Tga) (px : Pcx) (fa : A) (hb : aH) (n : Nat) (hso : isW so)  (hF : F_X5_readNumber sc (y_b (ww so)) pn ≠ fno) : AM mX5_readNumber 4 [.ref 23, .ref 16] (HC m0 sh rr ww so sc pl qo pn bm tg px fa hb) n 1 6 0 0 (P_X5_readNumber m0 sh rr ww so pl qo bm tg px fa hb n (F_X5_readNumber sc (y_b (ww so)) pn)) (X_X5_readNumber m0 sh rr ww so pl qo bm tg px fa hb n (F_X5_readNumber sc (y_b (ww so)) pn)) := by
  generalize hE : F_X5_readNumber sc (y_b (ww so)) pn = res at hF ⊢
  refine aw_of (by decide +kernel) rfl (Nat.le_of_ble_eq_true rfl) ?_
  unfold F_X5_readNumber at hE
  refine aw_aload_n dX5_readNumber_0 rfl ?_
  refine aw_aload_n dX5_readNumber_1 rfl ?_
  refine aw_getf (v := .int (sc_pos sc)) dX5_readNumber_2 flX5_47_7 at_src rfl ?_
  refine aw_putf dX5_readNumber_5 ptX5_77_4 at_pnm (Nat.le_of_ble_eq_true rfl) ⟨rfl, rfl⟩ ?_
  refine aw_eqh (h2 := HC m0 sh rr ww so sc pl qo ((pn_f1 pn), (pn_f2 pn), (pn_f3 pn), (sc_pos sc)) bm tg px fa hb) up_pnm ?_
  refine aw_aload_n dX5_readNumber_8 rfl ?_
  refine aw_callV dX5_readNumber_9 at_src cvX5_68 rfl (kF_X8_next m0 sh rr ww so sc pl qo ((pn_f1 pn), (pn_f2 pn), (pn_f3 pn), (sc_pos sc)) bm tg px fa hb _ hso  (fon_ne hE hF)) rfl (Nat.le_of_ble_eq_true rfl) (by decide) (by decide) (by decide) (by decide) (fun E h2 n2 hx => aw_out rfl (by decide) (by decide) (by obtain ⟨s9, e9, rfl, rfl⟩ := hx; exact ⟨_, (fon_ex e9 hE).symm, rfl, rfl⟩)) (fun r9 h9 n9 hp9 => ?_)
  obtain ⟨z9, s9, e9, rfl, rfl, rfl⟩ := hp9
  replace hE := fon_ok e9 hE
  refine aw_istore_n (lv2 := [(2, _), (0, _), (1, _)]) dX5_readNumber_12 (by decide) rfl ?_
  refine aw_iload_n dX5_readNumber_13 rfl ?_
  refine aw_callS dX5_readNumber_14  csX5_94 rfl (kF_X5_isDigit _ _ z9) rfl (Nat.le_of_ble_eq_true rfl) (by decide) (by decide) (by decide) (by decide) (fun _ _ _ hf => False.elim hf) (fun r14 h14 n14 hp14 => ?_)
  obtain ⟨rfl, rfl, rfl⟩ := hp14
  refine aw_if_ne (tgt := 29) dX5_readNumber_17 (by decide) (fun c17 => ?_) (fun c17 => ?_)
  · replace hE := fif hE c17
    refine aw_iload_n dX5_readNumber_29 rfl ?_
    refine aw_bipush (v := 48) dX5_readNumber_30 (by decide) ?_
    refine aw_isub dX5_readNumber_32 ?_
    refine aw_istore_n (lv2 := [(3, _), (2, _), (0, _), (1, _)]) dX5_readNumber_33 (by decide) rfl ?_
    exact aw_lv _ (List.forall_mem_cons.mpr ⟨rfl, (List.forall_mem_cons.mpr ⟨rfl, fun _ h => absurd h List.not_mem_nil⟩)⟩) (lp_ind (Q_X5_readNumber_34 m0 sh rr ww so pl qo bm tg px fa hb n) (fun _ _ _ res hq hF => (hF hq.symm).elim) (fun k hk => b_X5_readNumber_34 m0 sh rr ww so pl qo bm tg px fa hb n hso  k hk) FU (z9 - 48) s9 ((pn_f1 pn), (pn_f2 pn), (pn_f3 pn), (sc_pos sc)) _ hE hF)
  · replace hE := fit hE c17
    refine aw_aload_n dX5_readNumber_20 rfl ?_
    refine aw_iconst (v := 2) dX5_readNumber_21 (by decide) ?_
    refine aw_aload_n dX5_readNumber_22 rfl ?_
    refine aw_getf (v := .int (sc_pos sc)) dX5_readNumber_23 flX5_77_4 at_pnm rfl ?_
    refine aw_callV dX5_readNumber_26 at_src cvX5_72 rfl (kF_X8_refuse m0 sh rr ww so s9 pl qo ((pn_f1 pn), (pn_f2 pn), (pn_f3 pn), (sc_pos sc)) bm tg px fa hb _  2 (sc_pos sc) (fon_ne hE hF)) rfl (Nat.le_of_ble_eq_true rfl) (by decide) (by decide) (by decide) (by decide) (fun E h2 n2 hx => aw_out rfl (by decide) (by decide) (by obtain ⟨s26, e26, rfl, rfl⟩ := hx; exact ⟨_, (fon_ex e26 hE).symm, rfl, rfl⟩)) (fun r26 h26 n26 hp26 => ?_)
    obtain ⟨z26, s26, e26, rfl, rfl, rfl⟩ := hp26
    exact (hF (fon_ok e26 hE).symm).elim
