def P_X0_readDirect (m0 : Mnt) (sh : Nat → Nat) (rr : Nat → Ras) (ww : Nat → Row) (so : Nat) (pl : Pal) (qo : Qoi) (pn : Pnm) (bm : Bmp) (tg : Tga) (px : Pcx) (fa : A) (hb : aH) (n : Nat) (res : Out Src Int32) : Option Value → aH → Nat → Prop := fun r1 h2 n2 => ∃ (a : Int32) (s : Src), res = fok a s ∧ r1 = some (.int a) ∧ h2 = HC m0 sh rr ww so s pl qo pn bm tg px fa hb ∧ n = n2
def X_X0_readDirect (m0 : Mnt) (sh : Nat → Nat) (rr : Nat → Ras) (ww : Nat → Row) (so : Nat) (pl : Pal) (qo : Qoi) (pn : Pnm) (bm : Bmp) (tg : Tga) (px : Pcx) (fa : A) (hb : aH) (n : Nat) (res : Out Src Int32) : String → aH → Nat → Prop := fun E h2 n2 => ∃ s : Src, res = fex E s ∧ h2 = HC m0 sh rr ww so s pl qo pn bm tg px fa hb ∧ n = n2
abbrev Q_X0_readDirect_39 (m0 : Mnt) (sh : Nat → Nat) (rr : Nat → Ras) (ww : Nat → Row) (so : Nat) (pl : Pal) (qo : Qoi) (pn : Pnm) (bm : Bmp) (tg : Tga) (px : Pcx) (fa : A) (hb : aH) (n : Nat) (k : Int32 → Src → Out Src Int32) : Prop := ∀ (v2 : Int32) (sc : Src) (res : Out Src Int32), k v2 sc = res → res ≠ fno → AW (fun _ _ => True) mX0_readDirect (rmD 5 1 6) 0 0 (P_X0_readDirect m0 sh rr ww so pl qo pn bm tg px fa hb n res) (X_X0_readDirect m0 sh rr ww so pl qo pn bm tg px fa hb n res) 0 0 39 [(2, .int v2)] [] (HC m0 sh rr ww so sc pl qo pn bm tg px fa hb) n
def F_X0_readDirect_39 (sb : A) (bm : Bmp)  (v2 : Int32) (sc : Src) : Out Src Int32 := fok (v2 : Int32) sc
set_option maxHeartbeats 1000000 in
set_option maxRecDepth 100000 in
theorem b_X0_readDirect_39 (m0 : Mnt) (sh : Nat → Nat) (rr : Nat → Ras) (ww : Nat → Row) (so : Nat) (pl : Pal) (qo : Qoi) (pn : Pnm) (bm : Bmp) (tg : Tga) (px : Pcx) (fa : A) (hb : aH) (n : Nat) (hso : isW so)  : Q_X0_readDirect_39 m0 sh rr ww so pl qo pn bm tg px fa hb n (F_X0_readDirect_39 (y_b (ww so)) bm) := by
  intro v2 sc res hE hF
  unfold F_X0_readDirect_39 at hE
  refine aw_iload_n dX0_readDirect_39 rfl ?_
  exact aw_iret dX0_readDirect_40 rfl (Nat.zero_le _) (Nat.zero_le _) (Nat.zero_le _) (Nat.zero_le _) ⟨_, _, hE.symm, rfl, rfl, rfl⟩
def F_X0_readDirect (sc : Src) (sb : A) (bm : Bmp) : Out Src Int32 := if (bm_bits bm) = 16 then (fon (F_X8_low2 sc sb) (fun z10 s10 => fok ((F_X10_ofSixteenBits z10 255) : Int32) s10) (fun E s10 => fex E s10)) else (fon (F_X0_readBlueFirst sc sb) (fun z21 s21 => if (bm_bits bm) = 32 then (fon (F_X8_next s21 sb) (fun z35 s35 => F_X0_readDirect_39 sb bm z21 s35) (fun E s35 => fex E s35)) else (F_X0_readDirect_39 sb bm z21 s21)) (fun E s21 => fex E s21))
set_option maxHeartbeats 1000000 in
set_option maxRecDepth 100000 in
theorem kF_X0_readDirect (m0 : Mnt) (sh : Nat → Nat) (rr : Nat → Ras) (ww : Nat → Row) (so : Nat) (sc : Src) (pl : Pal) (qo : Qoi) (pn : Pnm) (bm : Bmp) (tg : Tga) (px : Pcx) (fa : A) (hb : aH) (n : Nat) (hso : isW so)  (hF : F_X0_readDirect sc (y_b (ww so)) bm ≠ fno) : AM mX0_readDirect 5 [.ref 24, .ref 16] (HC m0 sh rr ww so sc pl qo pn bm tg px fa hb) n 1 6 0 0 (P_X0_readDirect m0 sh rr ww so pl qo pn bm tg px fa hb n (F_X0_readDirect sc (y_b (ww so)) bm)) (X_X0_readDirect m0 sh rr ww so pl qo pn bm tg px fa hb n (F_X0_readDirect sc (y_b (ww so)) bm)) := by
  generalize hE : F_X0_readDirect sc (y_b (ww so)) bm = res at hF ⊢
  refine aw_of (by decide +kernel) rfl (Nat.le_of_ble_eq_true rfl) ?_
  unfold F_X0_readDirect at hE
  refine aw_aload_n dX0_readDirect_0 rfl ?_
  refine aw_getf (v := .int (bm_bits bm)) dX0_readDirect_1 flX0_72_0 at_bmp rfl ?_
  refine aw_bipush (v := 16) dX0_readDirect_4 (by decide) ?_
  refine aw_icmp_ne (tgt := 20) dX0_readDirect_6 (by decide) (fun c6 => ?_) (fun c6 => ?_)
  · replace hE := fif hE c6
    refine aw_aload_n dX0_readDirect_20 rfl ?_
    refine aw_callS dX0_readDirect_21  csX0_108 rfl (kF_X0_readBlueFirst m0 sh rr ww so sc pl qo pn bm tg px fa hb _ hso  (fon_ne hE hF)) rfl (Nat.le_of_ble_eq_true rfl) (by decide) (by decide) (by decide) (by decide) (fun E h2 n2 hx => aw_out rfl (by decide) (by decide) (by obtain ⟨s21, e21, rfl, rfl⟩ := hx; exact ⟨_, (fon_ex e21 hE).symm, rfl, rfl⟩)) (fun r21 h21 n21 hp21 => ?_)
    obtain ⟨z21, s21, e21, rfl, rfl, rfl⟩ := hp21
    replace hE := fon_ok e21 hE
    refine aw_istore_n (lv2 := [(2, _), (0, _), (1, _)]) dX0_readDirect_24 (by decide) rfl ?_
    refine aw_aload_n dX0_readDirect_25 rfl ?_
    refine aw_getf (v := .int (bm_bits bm)) dX0_readDirect_26 flX0_72_0 at_bmp rfl ?_
    refine aw_bipush (v := 32) dX0_readDirect_29 (by decide) ?_
    refine aw_icmp_ne (tgt := 39) dX0_readDirect_31 (by decide) (fun c31 => ?_) (fun c31 => ?_)
    · replace hE := fif hE c31
      exact aw_lv _ (List.forall_mem_cons.mpr ⟨rfl, fun _ h => absurd h List.not_mem_nil⟩) (b_X0_readDirect_39 m0 sh rr ww so pl qo pn bm tg px fa hb n hso  z21 s21 _ hE hF)
    · replace hE := fit hE c31
      refine aw_aload_n dX0_readDirect_34 rfl ?_
      refine aw_callV dX0_readDirect_35 at_src cvX0_112 rfl (kF_X8_next m0 sh rr ww so s21 pl qo pn bm tg px fa hb _ hso  (fon_ne hE hF)) rfl (Nat.le_of_ble_eq_true rfl) (by decide) (by decide) (by decide) (by decide) (fun E h2 n2 hx => aw_out rfl (by decide) (by decide) (by obtain ⟨s35, e35, rfl, rfl⟩ := hx; exact ⟨_, (fon_ex e35 hE).symm, rfl, rfl⟩)) (fun r35 h35 n35 hp35 => ?_)
      obtain ⟨z35, s35, e35, rfl, rfl, rfl⟩ := hp35
      replace hE := fon_ok e35 hE
      refine aw_pop dX0_readDirect_38 rfl ?_
      exact aw_lv _ (List.forall_mem_cons.mpr ⟨rfl, fun _ h => absurd h List.not_mem_nil⟩) (b_X0_readDirect_39 m0 sh rr ww so pl qo pn bm tg px fa hb n hso  z21 s35 _ hE hF)
  · replace hE := fit hE c6
    refine aw_aload_n dX0_readDirect_9 rfl ?_
    refine aw_callV dX0_readDirect_10 at_src cvX0_99 rfl (kF_X8_low2 m0 sh rr ww so sc pl qo pn bm tg px fa hb _ hso  (fon_ne hE hF)) rfl (Nat.le_of_ble_eq_true rfl) (by decide) (by decide) (by decide) (by decide) (fun E h2 n2 hx => aw_out rfl (by decide) (by decide) (by obtain ⟨s10, e10, rfl, rfl⟩ := hx; exact ⟨_, (fon_ex e10 hE).symm, rfl, rfl⟩)) (fun r10 h10 n10 hp10 => ?_)
    obtain ⟨z10, s10, e10, rfl, rfl, rfl⟩ := hp10
    replace hE := fon_ok e10 hE
    refine aw_sipush (v := 255) dX0_readDirect_13 (by decide) ?_
    refine aw_callSN dX0_readDirect_16  csX0_144 rfl (kF_X10_ofSixteenBits _ _ z10 255) rfl (Nat.le_of_ble_eq_true rfl) (by decide) (by decide) (by decide) (by decide)  (fun r16 h16 n16 hp16 => ?_)
    obtain ⟨rfl, rfl, rfl⟩ := hp16
    exact aw_iret dX0_readDirect_19 rfl (Nat.zero_le _) (Nat.zero_le _) (Nat.zero_le _) (Nat.zero_le _) ⟨_, _, hE.symm, rfl, rfl, rfl⟩
def P_X0_readPairs (m0 : Mnt) (sh : Nat → Nat) (rr : Nat → Ras) (r : Nat) (ww : Nat → Row) (so : Nat) (pl : Pal) (qo : Qoi) (pn : Pnm) (tg : Tga) (px : Pcx) (fa : A) (hb : aH) (n : Nat) (res : Out (Ras × Src × Bmp) Unit) : Option Value → aH → Nat → Prop := fun r1 h2 n2 => ∃ (a : Unit) (s : (Ras × Src × Bmp)), res = fok a s ∧ r1 = none ∧ h2 = HC m0 sh (va_up rr r s.1) ww so s.2.1 pl qo pn s.2.2 tg px fa hb ∧ n = n2
def X_X0_readPairs (m0 : Mnt) (sh : Nat → Nat) (rr : Nat → Ras) (r : Nat) (ww : Nat → Row) (so : Nat) (pl : Pal) (qo : Qoi) (pn : Pnm) (tg : Tga) (px : Pcx) (fa : A) (hb : aH) (n : Nat) (res : Out (Ras × Src × Bmp) Unit) : String → aH → Nat → Prop := fun E h2 n2 => ∃ s : (Ras × Src × Bmp), res = fex E s ∧ h2 = HC m0 sh (va_up rr r s.1) ww so s.2.1 pl qo pn s.2.2 tg px fa hb ∧ n = n2
abbrev Q_X0_readPairs_25 (m0 : Mnt) (sh : Nat → Nat) (rr : Nat → Ras) (r : Nat) (ww : Nat → Row) (so : Nat) (pl : Pal) (qo : Qoi) (pn : Pnm) (tg : Tga) (px : Pcx) (fa : A) (hb : aH) (n : Nat) (k : Int32 → Int32 → Ras → Src → Bmp → Out (Ras × Src × Bmp) Unit) : Prop := ∀ (v3 : Int32) (v4 : Int32) (x : Ras) (sc : Src) (bm : Bmp) (res : Out (Ras × Src × Bmp) Unit), k v3 v4 x sc bm = res → res ≠ fno → AW (fun _ _ => True) mX0_readPairs (rmD 6 1 6) 0 0 (P_X0_readPairs m0 sh rr r ww so pl qo pn tg px fa hb n res) (X_X0_readPairs m0 sh rr r ww so pl qo pn tg px fa hb n res) 0 0 25 [(0, .ref 24), (1, .ref 16), (2, .ref r), (3, .int v3), (4, .int v4)] [] (HC m0 sh (va_up rr r x) ww so sc pl qo pn bm tg px fa hb) n
abbrev Q_X0_readPairs_132 (m0 : Mnt) (sh : Nat → Nat) (rr : Nat → Ras) (r : Nat) (ww : Nat → Row) (so : Nat) (pl : Pal) (qo : Qoi) (pn : Pnm) (tg : Tga) (px : Pcx) (fa : A) (hb : aH) (n : Nat) (k : Int32 → Int32 → Ras → Src → Bmp → Out (Ras × Src × Bmp) Unit) : Prop := ∀ (v3 : Int32) (v4 : Int32) (x : Ras) (sc : Src) (bm : Bmp) (res : Out (Ras × Src × Bmp) Unit), k v3 v4 x sc bm = res → res ≠ fno → AW (fun _ _ => True) mX0_readPairs (rmD 6 1 6) 0 0 (P_X0_readPairs m0 sh rr r ww so pl qo pn tg px fa hb n res) (X_X0_readPairs m0 sh rr r ww so pl qo pn tg px fa hb n res) 0 0 132 [(0, .ref 24), (1, .ref 16), (2, .ref r), (3, .int v3), (4, .int v4)] [] (HC m0 sh (va_up rr r x) ww so sc pl qo pn bm tg px fa hb) n
def F_X0_readPairs_132 (sb : A) (k25 : Int32 → Int32 → Ras → Src → Bmp → Out (Ras × Src × Bmp) Unit) (v3 : Int32) (v4 : Int32) (x : Ras) (sc : Src) (bm : Bmp) : Out (Ras × Src × Bmp) Unit := k25 v3 (v4 + 1) x sc bm
set_option maxHeartbeats 1000000 in
set_option maxRecDepth 100000 in
theorem b_X0_readPairs_132 (m0 : Mnt) (sh : Nat → Nat) (rr : Nat → Ras) (r : Nat) (ww : Nat → Row) (so : Nat) (pl : Pal) (qo : Qoi) (pn : Pnm) (tg : Tga) (px : Pcx) (fa : A) (hb : aH) (n : Nat) (hr : isR r) (hso : isW so) (k25 : Int32 → Int32 → Ras → Src → Bmp → Out (Ras × Src × Bmp) Unit) (hk25 : Q_X0_readPairs_25 m0 sh rr r ww so pl qo pn tg px fa hb n k25) : Q_X0_readPairs_132 m0 sh rr r ww so pl qo pn tg px fa hb n (F_X0_readPairs_132 (y_b (ww so)) k25) := by
  intro v3 v4 x sc bm res hE hF
  unfold F_X0_readPairs_132 at hE
  refine aw_iinc (v := (v4 + 1)) (lv2 := [(4, _), (0, _), (1, _), (2, _), (3, _)]) dX0_readPairs_132 rfl (incE (by decide)) (by decide) rfl ?_
  refine aw_goto (tgt := 25) dX0_readPairs_135 (by decide) ?_
  exact aw_lv _ (List.forall_mem_cons.mpr ⟨rfl, (List.forall_mem_cons.mpr ⟨rfl, (List.forall_mem_cons.mpr ⟨rfl, (List.forall_mem_cons.mpr ⟨rfl, (List.forall_mem_cons.mpr ⟨rfl, fun _ h => absurd h List.not_mem_nil⟩)⟩)⟩)⟩)⟩) (hk25 v3 (v4 + 1) x sc bm _ hE hF)
def F_X0_readPairs_25 (sb : A) (k25 : Int32 → Int32 → Ras → Src → Bmp → Out (Ras × Src × Bmp) Unit) (v3 : Int32) (v4 : Int32) (x : Ras) (sc : Src) (bm : Bmp) : Out (Ras × Src × Bmp) Unit := if v3 = 0 then (fok () (x, sc, bm)) else (if (sc_size sc) ≤ v4 then (fok () (x, sc, bm)) else (fon (F_X8_next sc sb) (fun z45 s45 => fon (F_X8_next s45 sb) (fun z51 s51 => if z45 ≤ 0 then (if z51 ≤ 2 then (if z51 = 1 then (F_X0_readPairs_132 sb k25 (0 : Int32) v4 x s51 bm) else (fon (F_X0_move z51 (sc_pos sc) x s51 sb bm) (fun z129 s129 => F_X0_readPairs_132 sb k25 v3 v4 x s129.1 s129.2) (fun E s129 => fex E (x, s129.1, s129.2)))) else (fon (F_X0_askRoom z51 (sc_pos sc) x s51 bm) (fun z97 s97 => fon (F_X0_readUnlike z51 x s97 sb bm) (fun z105 s105 => F_X0_readPairs_132 sb k25 v3 v4 s105.1 s105.2.1 s105.2.2) (fun E s105 => fex E (s105.1, s105.2.1, s105.2.2))) (fun E s97 => fex E (x, s97, bm)))) else (fon (F_X0_askRoom z45 (sc_pos sc) x s51 bm) (fun z68 s68 => fon (F_X0_readLike z45 z51 x s68 bm) (fun z78 s78 => F_X0_readPairs_132 sb k25 v3 v4 s78.1 s78.2.1 s78.2.2) (fun E s78 => fex E (s78.1, s78.2.1, s78.2.2))) (fun E s68 => fex E (x, s68, bm)))) (fun E s51 => fex E (x, s51, bm))) (fun E s45 => fex E (x, s45, bm))))
set_option maxHeartbeats 1000000 in
set_option maxRecDepth 100000 in
theorem b_X0_readPairs_25 (m0 : Mnt) (sh : Nat → Nat) (rr : Nat → Ras) (r : Nat) (ww : Nat → Row) (so : Nat) (pl : Pal) (qo : Qoi) (pn : Pnm) (tg : Tga) (px : Pcx) (fa : A) (hb : aH) (n : Nat) (hr : isR r) (hso : isW so) (k25 : Int32 → Int32 → Ras → Src → Bmp → Out (Ras × Src × Bmp) Unit) (hk25 : Q_X0_readPairs_25 m0 sh rr r ww so pl qo pn tg px fa hb n k25) : Q_X0_readPairs_25 m0 sh rr r ww so pl qo pn tg px fa hb n (F_X0_readPairs_25 (y_b (ww so)) k25) := by
  intro v3 v4 x sc bm res hE hF
  unfold F_X0_readPairs_25 at hE
  refine aw_iload_n dX0_readPairs_25 rfl ?_
  refine aw_if_eq (tgt := 138) dX0_readPairs_26 (by decide) (fun c26 => ?_) (fun c26 => ?_)
  · replace hE := fit hE c26
    exact aw_vret dX0_readPairs_138 rfl (Nat.zero_le _) (Nat.zero_le _) (Nat.zero_le _) (Nat.zero_le _) ⟨_, _, hE.symm, rfl, rfl, rfl⟩
  · replace hE := fif hE c26
    refine aw_iload dX0_readPairs_29 rfl ?_
    refine aw_aload_n dX0_readPairs_31 rfl ?_
    refine aw_getf (v := .int (sc_size sc)) dX0_readPairs_32 flX0_25_7 at_src rfl ?_
    refine aw_icmp_ge (tgt := 138) dX0_readPairs_35 (by decide) (fun c35 => ?_) (fun c35 => ?_)
    · replace hE := fit hE c35
      exact aw_vret dX0_readPairs_138 rfl (Nat.zero_le _) (Nat.zero_le _) (Nat.zero_le _) (Nat.zero_le _) ⟨_, _, hE.symm, rfl, rfl, rfl⟩
    · replace hE := fif hE c35
      refine aw_aload_n dX0_readPairs_38 rfl ?_
      refine aw_getf (v := .int (sc_pos sc)) dX0_readPairs_39 flX0_57_7 at_src rfl ?_
      refine aw_istore (lv2 := [(5, _), (0, _), (1, _), (2, _), (3, _), (4, _)]) dX0_readPairs_42 (by decide) rfl ?_
      refine aw_aload_n dX0_readPairs_44 rfl ?_
      refine aw_callV dX0_readPairs_45 at_src cvX0_112 rfl (kF_X8_next m0 sh (va_up rr r x) ww so sc pl qo pn bm tg px fa hb _ hso  (fon_ne hE hF)) rfl (Nat.le_of_ble_eq_true rfl) (by decide) (by decide) (by decide) (by decide) (fun E h2 n2 hx => aw_out rfl (by decide) (by decide) (by obtain ⟨s45, e45, rfl, rfl⟩ := hx; exact ⟨_, (fon_ex e45 hE).symm, rfl, rfl⟩)) (fun r45 h45 n45 hp45 => ?_)
      obtain ⟨z45, s45, e45, rfl, rfl, rfl⟩ := hp45
      replace hE := fon_ok e45 hE
      refine aw_istore (lv2 := [(6, _), (5, _), (0, _), (1, _), (2, _), (3, _), (4, _)]) dX0_readPairs_48 (by decide) rfl ?_
      refine aw_aload_n dX0_readPairs_50 rfl ?_
      refine aw_callV dX0_readPairs_51 at_src cvX0_112 rfl (kF_X8_next m0 sh (va_up rr r x) ww so s45 pl qo pn bm tg px fa hb _ hso  (fon_ne hE hF)) rfl (Nat.le_of_ble_eq_true rfl) (by decide) (by decide) (by decide) (by decide) (fun E h2 n2 hx => aw_out rfl (by decide) (by decide) (by obtain ⟨s51, e51, rfl, rfl⟩ := hx; exact ⟨_, (fon_ex e51 hE).symm, rfl, rfl⟩)) (fun r51 h51 n51 hp51 => ?_)
      obtain ⟨z51, s51, e51, rfl, rfl, rfl⟩ := hp51
      replace hE := fon_ok e51 hE
      refine aw_istore (lv2 := [(7, _), (6, _), (5, _), (0, _), (1, _), (2, _), (3, _), (4, _)]) dX0_readPairs_54 (by decide) rfl ?_
      refine aw_iload dX0_readPairs_56 rfl ?_
      refine aw_if_le (tgt := 84) dX0_readPairs_58 (by decide) (fun c58 => ?_) (fun c58 => ?_)
      · replace hE := fit hE c58
        refine aw_iload dX0_readPairs_84 rfl ?_
        refine aw_iconst (v := 2) dX0_readPairs_86 (by decide) ?_
        refine aw_icmp_le (tgt := 111) dX0_readPairs_87 (by decide) (fun c87 => ?_) (fun c87 => ?_)
        · replace hE := fit hE c87
          refine aw_iload dX0_readPairs_111 rfl ?_
          refine aw_iconst (v := 1) dX0_readPairs_113 (by decide) ?_
          refine aw_icmp_ne (tgt := 122) dX0_readPairs_114 (by decide) (fun c114 => ?_) (fun c114 => ?_)
          · replace hE := fif hE c114
            refine aw_aload_n dX0_readPairs_122 rfl ?_
            refine aw_aload_n dX0_readPairs_123 rfl ?_
            refine aw_aload_n dX0_readPairs_124 rfl ?_
            refine aw_iload dX0_readPairs_125 rfl ?_
            refine aw_iload dX0_readPairs_127 rfl ?_
            refine aw_callV dX0_readPairs_129 at_bmp cvX0_167 rfl (kF_X0_move m0 sh rr r x ww so s51 pl qo pn bm tg px fa hb _ hr hso z51 (sc_pos sc) (fon_ne hE hF)) rfl (Nat.le_of_ble_eq_true rfl) (by decide) (by decide) (by decide) (by decide) (fun E h2 n2 hx => aw_out rfl (by decide) (by decide) (by obtain ⟨s129, e129, rfl, rfl⟩ := hx; exact ⟨_, (fon_ex e129 hE).symm, rfl, rfl⟩)) (fun r129 h129 n129 hp129 => ?_)
            obtain ⟨z129, s129, e129, rfl, rfl, rfl⟩ := hp129
            replace hE := fon_ok e129 hE
            exact aw_lv _ (List.forall_mem_cons.mpr ⟨rfl, (List.forall_mem_cons.mpr ⟨rfl, (List.forall_mem_cons.mpr ⟨rfl, (List.forall_mem_cons.mpr ⟨rfl, (List.forall_mem_cons.mpr ⟨rfl, fun _ h => absurd h List.not_mem_nil⟩)⟩)⟩)⟩)⟩) (b_X0_readPairs_132 m0 sh rr r ww so pl qo pn tg px fa hb n hr hso k25 hk25 v3 v4 x s129.1 s129.2 _ hE hF)
          · replace hE := fit hE c114
            refine aw_iconst (v := 0) dX0_readPairs_117 (by decide) ?_
            refine aw_istore_n (lv2 := [(3, _), (7, _), (6, _), (5, _), (0, _), (1, _), (2, _), (4, _)]) dX0_readPairs_118 (by decide) rfl ?_
            refine aw_goto (tgt := 132) dX0_readPairs_119 (by decide) ?_
            exact aw_lv _ (List.forall_mem_cons.mpr ⟨rfl, (List.forall_mem_cons.mpr ⟨rfl, (List.forall_mem_cons.mpr ⟨rfl, (List.forall_mem_cons.mpr ⟨rfl, (List.forall_mem_cons.mpr ⟨rfl, fun _ h => absurd h List.not_mem_nil⟩)⟩)⟩)⟩)⟩) (b_X0_readPairs_132 m0 sh rr r ww so pl qo pn tg px fa hb n hr hso k25 hk25 (0 : Int32) v4 x s51 bm _ hE hF)
        · replace hE := fif hE c87
          refine aw_aload_n dX0_readPairs_90 rfl ?_
          refine aw_aload_n dX0_readPairs_91 rfl ?_
          refine aw_aload_n dX0_readPairs_92 rfl ?_
          refine aw_iload dX0_readPairs_93 rfl ?_
          refine aw_iload dX0_readPairs_95 rfl ?_
          refine aw_callV dX0_readPairs_97 at_bmp cvX0_156 rfl (kF_X0_askRoom m0 sh rr r x ww so s51 pl qo pn bm tg px fa hb _ hr z51 (sc_pos sc) (fon_ne hE hF)) rfl (Nat.le_of_ble_eq_true rfl) (by decide) (by decide) (by decide) (by decide) (fun E h2 n2 hx => aw_out rfl (by decide) (by decide) (by obtain ⟨s97, e97, rfl, rfl⟩ := hx; exact ⟨_, (fon_ex e97 hE).symm, rfl, rfl⟩)) (fun r97 h97 n97 hp97 => ?_)
          obtain ⟨z97, s97, e97, rfl, rfl, rfl⟩ := hp97
          replace hE := fon_ok e97 hE
          refine aw_aload_n dX0_readPairs_100 rfl ?_
          refine aw_aload_n dX0_readPairs_101 rfl ?_
          refine aw_aload_n dX0_readPairs_102 rfl ?_
          refine aw_iload dX0_readPairs_103 rfl ?_
          refine aw_callV dX0_readPairs_105 at_bmp cvX0_163 rfl (kF_X0_readUnlike m0 sh rr r x ww so s97 pl qo pn bm tg px fa hb _ hr hso z51 (fon_ne hE hF)) rfl (Nat.le_of_ble_eq_true rfl) (by decide) (by decide) (by decide) (by decide) (fun E h2 n2 hx => aw_out rfl (by decide) (by decide) (by obtain ⟨s105, e105, rfl, rfl⟩ := hx; exact ⟨_, (fon_ex e105 hE).symm, rfl, rfl⟩)) (fun r105 h105 n105 hp105 => ?_)
          obtain ⟨z105, s105, e105, rfl, rfl, rfl⟩ := hp105
          replace hE := fon_ok e105 hE
          refine aw_goto (tgt := 132) dX0_readPairs_108 (by decide) ?_
          exact aw_lv _ (List.forall_mem_cons.mpr ⟨rfl, (List.forall_mem_cons.mpr ⟨rfl, (List.forall_mem_cons.mpr ⟨rfl, (List.forall_mem_cons.mpr ⟨rfl, (List.forall_mem_cons.mpr ⟨rfl, fun _ h => absurd h List.not_mem_nil⟩)⟩)⟩)⟩)⟩) (b_X0_readPairs_132 m0 sh rr r ww so pl qo pn tg px fa hb n hr hso k25 hk25 v3 v4 s105.1 s105.2.1 s105.2.2 _ hE hF)
      · replace hE := fif hE c58
        refine aw_aload_n dX0_readPairs_61 rfl ?_
        refine aw_aload_n dX0_readPairs_62 rfl ?_
        refine aw_aload_n dX0_readPairs_63 rfl ?_
        refine aw_iload dX0_readPairs_64 rfl ?_
        refine aw_iload dX0_readPairs_66 rfl ?_
        refine aw_callV dX0_readPairs_68 at_bmp cvX0_156 rfl (kF_X0_askRoom m0 sh rr r x ww so s51 pl qo pn bm tg px fa hb _ hr z45 (sc_pos sc) (fon_ne hE hF)) rfl (Nat.le_of_ble_eq_true rfl) (by decide) (by decide) (by decide) (by decide) (fun E h2 n2 hx => aw_out rfl (by decide) (by decide) (by obtain ⟨s68, e68, rfl, rfl⟩ := hx; exact ⟨_, (fon_ex e68 hE).symm, rfl, rfl⟩)) (fun r68 h68 n68 hp68 => ?_)
        obtain ⟨z68, s68, e68, rfl, rfl, rfl⟩ := hp68
        replace hE := fon_ok e68 hE
        refine aw_aload_n dX0_readPairs_71 rfl ?_
        refine aw_aload_n dX0_readPairs_72 rfl ?_
        refine aw_aload_n dX0_readPairs_73 rfl ?_
        refine aw_iload dX0_readPairs_74 rfl ?_
        refine aw_iload dX0_readPairs_76 rfl ?_
        refine aw_callV dX0_readPairs_78 at_bmp cvX0_160 rfl (kF_X0_readLike m0 sh rr r x ww so s68 pl qo pn bm tg px fa hb _ hr z45 z51 (fon_ne hE hF)) rfl (Nat.le_of_ble_eq_true rfl) (by decide) (by decide) (by decide) (by decide) (fun E h2 n2 hx => aw_out rfl (by decide) (by decide) (by obtain ⟨s78, e78, rfl, rfl⟩ := hx; exact ⟨_, (fon_ex e78 hE).symm, rfl, rfl⟩)) (fun r78 h78 n78 hp78 => ?_)
        obtain ⟨z78, s78, e78, rfl, rfl, rfl⟩ := hp78
        replace hE := fon_ok e78 hE
        refine aw_goto (tgt := 132) dX0_readPairs_81 (by decide) ?_
        exact aw_lv _ (List.forall_mem_cons.mpr ⟨rfl, (List.forall_mem_cons.mpr ⟨rfl, (List.forall_mem_cons.mpr ⟨rfl, (List.forall_mem_cons.mpr ⟨rfl, (List.forall_mem_cons.mpr ⟨rfl, fun _ h => absurd h List.not_mem_nil⟩)⟩)⟩)⟩)⟩) (b_X0_readPairs_132 m0 sh rr r ww so pl qo pn tg px fa hb n hr hso k25 hk25 v3 v4 s78.1 s78.2.1 s78.2.2 _ hE hF)
def F_X0_readPairs (x : Ras) (sc : Src) (sb : A) (bm : Bmp) : Out (Ras × Src × Bmp) Unit := if inb 0 256 then (fon (F_X7_fill ((bm_col bm) (Int32.toNatClampNeg 0)) x) (fun z7 s7 => lp (fun _ _ _ _ _ => fno) (F_X0_readPairs_25 sb) FU (1 : Int32) (0 : Int32) s7 sc ((bm_f1 bm), (bm_f2 bm), (bm_f3 bm), (bm_top bm), (bm_bits bm), (bm_comp bm), (bm_used bm), (bm_packed bm), 0, 0, (bm_col bm))) (fun _ _ => fno)) else fno
set_option maxHeartbeats 1000000 in
set_option maxRecDepth 100000 in
theorem kF_X0_readPairs (m0 : Mnt) (sh : Nat → Nat) (rr : Nat → Ras) (r : Nat) (x : Ras) (ww : Nat → Row) (so : Nat) (sc : Src) (pl : Pal) (qo : Qoi) (pn : Pnm) (bm : Bmp) (tg : Tga) (px : Pcx) (fa : A) (hb : aH) (n : Nat) (hr : isR r) (hso : isW so)  (hF : F_X0_readPairs x sc (y_b (ww so)) bm ≠ fno) : AM mX0_readPairs 6 [.ref 24, .ref 16, .ref r] (HC m0 sh (va_up rr r x) ww so sc pl qo pn bm tg px fa hb) n 1 6 0 0 (P_X0_readPairs m0 sh rr r ww so pl qo pn tg px fa hb n (F_X0_readPairs x sc (y_b (ww so)) bm)) (X_X0_readPairs m0 sh rr r ww so pl qo pn tg px fa hb n (F_X0_readPairs x sc (y_b (ww so)) bm)) := by
  generalize hE : F_X0_readPairs x sc (y_b (ww so)) bm = res at hF ⊢
  refine aw_of (by decide +kernel) rfl (Nat.le_of_ble_eq_true rfl) ?_
  unfold F_X0_readPairs at hE
  refine aw_aload_n dX0_readPairs_0 rfl ?_
  refine aw_aload_n dX0_readPairs_1 rfl ?_
  refine aw_getf (v := .ref 25) dX0_readPairs_2 flX0_9_0 at_bmp rfl ?_
  refine aw_iconst (v := 0) dX0_readPairs_5 (by decide) ?_
  obtain ⟨g6, hE⟩ := fgd hE hF
  refine aw_iald (f := (bm_col bm)) dX0_readPairs_6 at_bmpcol (vp_in_iff.mpr g6) ?_
  refine aw_callV dX0_readPairs_7 (at_ras hr) cvX0_147 rfl (kF_X7_fill m0 sh rr r x ww so sc pl qo pn bm tg px fa hb _ hr ((bm_col bm) (Int32.toNatClampNeg 0)) (fon_ne hE hF)) rfl (Nat.le_of_ble_eq_true rfl) (by decide) (by decide) (by decide) (by decide) (fun _ _ _ hf => False.elim hf) (fun r7 h7 n7 hp7 => ?_)
  obtain ⟨z7, s7, e7, rfl, rfl, rfl⟩ := hp7
  replace hE := fon_ok e7 hE
  refine aw_aload_n dX0_readPairs_10 rfl ?_
  refine aw_iconst (v := 0) dX0_readPairs_11 (by decide) ?_
  refine aw_putf dX0_readPairs_12 ptX0_150_0 at_bmp (Nat.le_of_ble_eq_true rfl) ⟨rfl, rfl⟩ ?_
  refine aw_eqh (h2 := HC m0 sh (va_up rr r s7) ww so sc pl qo pn ((bm_f1 bm), (bm_f2 bm), (bm_f3 bm), (bm_top bm), (bm_bits bm), (bm_comp bm), (bm_used bm), (bm_packed bm), 0, (bm_up bm), (bm_col bm)) tg px fa hb) up_bmp ?_
  refine aw_aload_n dX0_readPairs_15 rfl ?_
  refine aw_iconst (v := 0) dX0_readPairs_16 (by decide) ?_
  refine aw_putf dX0_readPairs_17 ptX0_153_0 at_bmp (Nat.le_of_ble_eq_true rfl) ⟨rfl, rfl⟩ ?_
  refine aw_eqh (h2 := HC m0 sh (va_up rr r s7) ww so sc pl qo pn ((bm_f1 bm), (bm_f2 bm), (bm_f3 bm), (bm_top bm), (bm_bits bm), (bm_comp bm), (bm_used bm), (bm_packed bm), 0, 0, (bm_col bm)) tg px fa hb) up_bmp ?_
  refine aw_iconst (v := 1) dX0_readPairs_20 (by decide) ?_
  refine aw_istore_n (lv2 := [(3, _), (0, _), (1, _), (2, _)]) dX0_readPairs_21 (by decide) rfl ?_
  refine aw_iconst (v := 0) dX0_readPairs_22 (by decide) ?_
  refine aw_istore (lv2 := [(4, _), (3, _), (0, _), (1, _), (2, _)]) dX0_readPairs_23 (by decide) rfl ?_
  exact aw_lv _ (List.forall_mem_cons.mpr ⟨rfl, (List.forall_mem_cons.mpr ⟨rfl, (List.forall_mem_cons.mpr ⟨rfl, (List.forall_mem_cons.mpr ⟨rfl, (List.forall_mem_cons.mpr ⟨rfl, fun _ h => absurd h List.not_mem_nil⟩)⟩)⟩)⟩)⟩) (lp_ind (Q_X0_readPairs_25 m0 sh rr r ww so pl qo pn tg px fa hb n) (fun _ _ _ _ _ res hq hF => (hF hq.symm).elim) (fun k hk => b_X0_readPairs_25 m0 sh rr r ww so pl qo pn tg px fa hb n hr hso  k hk) FU (1 : Int32) (0 : Int32) s7 sc ((bm_f1 bm), (bm_f2 bm), (bm_f3 bm), (bm_top bm), (bm_bits bm), (bm_comp bm), (bm_used bm), (bm_packed bm), 0, 0, (bm_col bm)) _ hE hF)
def P_X4_decode (m0 : Mnt) (sh : Nat → Nat) (rr : Nat → Ras) (r : Nat) (ww : Nat → Row) (so : Nat) (pl : Pal) (qo : Qoi) (pn : Pnm) (bm : Bmp) (tg : Tga) (fa : A) (hb : aH) (n : Nat) (res : Out (Ras × Src × Pcx) Unit) : Option Value → aH → Nat → Prop := fun r1 h2 n2 => ∃ (a : Unit) (s : (Ras × Src × Pcx)), res = fok a s ∧ r1 = none ∧ h2 = HC m0 sh (va_up rr r s.1) ww so s.2.1 pl qo pn bm tg s.2.2 fa hb ∧ n = n2
def X_X4_decode (m0 : Mnt) (sh : Nat → Nat) (rr : Nat → Ras) (r : Nat) (ww : Nat → Row) (so : Nat) (pl : Pal) (qo : Qoi) (pn : Pnm) (bm : Bmp) (tg : Tga) (fa : A) (hb : aH) (n : Nat) (res : Out (Ras × Src × Pcx) Unit) : String → aH → Nat → Prop := fun E h2 n2 => ∃ s : (Ras × Src × Pcx), res = fex E s ∧ h2 = HC m0 sh (va_up rr r s.1) ww so s.2.1 pl qo pn bm tg s.2.2 fa hb ∧ n = n2
abbrev Q_X4_decode_70 (m0 : Mnt) (sh : Nat → Nat) (rr : Nat → Ras) (r : Nat) (ww : Nat → Row) (so : Nat) (pl : Pal) (qo : Qoi) (pn : Pnm) (bm : Bmp) (tg : Tga) (fa : A) (hb : aH) (n : Nat) (k : Int32 → Ras → Src → Pcx → Out (Ras × Src × Pcx) Unit) : Prop := ∀ (v3 : Int32) (x : Ras) (sc : Src) (px : Pcx) (res : Out (Ras × Src × Pcx) Unit), k v3 x sc px = res → res ≠ fno → AW (fun _ _ => True) mX4_decode (rmD 6 1 6) 0 0 (P_X4_decode m0 sh rr r ww so pl qo pn bm tg fa hb n res) (X_X4_decode m0 sh rr r ww so pl qo pn bm tg fa hb n res) 0 0 70 [(0, .ref 28), (1, .ref 16), (2, .ref r), (3, .int v3)] [] (HC m0 sh (va_up rr r x) ww so sc pl qo pn bm tg px fa hb) n
abbrev Q_X4_decode_122 (m0 : Mnt) (sh : Nat → Nat) (rr : Nat → Ras) (r : Nat) (ww : Nat → Row) (so : Nat) (pl : Pal) (qo : Qoi) (pn : Pnm) (bm : Bmp) (tg : Tga) (fa : A) (hb : aH) (n : Nat) (k : Ras → Src → Pcx → Out (Ras × Src × Pcx) Unit) : Prop := ∀ (x : Ras) (sc : Src) (px : Pcx) (res : Out (Ras × Src × Pcx) Unit), k x sc px = res → res ≠ fno → AW (fun _ _ => True) mX4_decode (rmD 6 1 6) 0 0 (P_X4_decode m0 sh rr r ww so pl qo pn bm tg fa hb n res) (X_X4_decode m0 sh rr r ww so pl qo pn bm tg fa hb n res) 0 0 122 [(0, .ref 28), (1, .ref 16), (2, .ref r)] [] (HC m0 sh (va_up rr r x) ww so sc pl qo pn bm tg px fa hb) n
def F_X4_decode_122 (sb : A)  (x : Ras) (sc : Src) (px : Pcx) : Out (Ras × Src × Pcx) Unit := fon (F_X8_wantEnd sc) (fun z123 s123 => fon (F_X4_colour x px) (fun z128 s128 => fok () (s128, s123, ((px_bits px), (px_planes px), (px_step px), (px_ver px), (px_bits px), (px_per px), (px_planes px), (px_step px), (px_col px)))) (fun _ _ => fno)) (fun E s123 => fex E (x, s123, px))
set_option maxHeartbeats 1000000 in
set_option maxRecDepth 100000 in
theorem b_X4_decode_122 (m0 : Mnt) (sh : Nat → Nat) (rr : Nat → Ras) (r : Nat) (ww : Nat → Row) (so : Nat) (pl : Pal) (qo : Qoi) (pn : Pnm) (bm : Bmp) (tg : Tga) (fa : A) (hb : aH) (n : Nat) (hr : isR r) (hso : isW so)  : Q_X4_decode_122 m0 sh rr r ww so pl qo pn bm tg fa hb n (F_X4_decode_122 (y_b (ww so))) := by
  intro x sc px res hE hF
  unfold F_X4_decode_122 at hE
  refine aw_aload_n dX4_decode_122 rfl ?_
  refine aw_callV dX4_decode_123 at_src cvX4_71 rfl (kF_X8_wantEnd m0 sh (va_up rr r x) ww so sc pl qo pn bm tg px fa hb _   (fon_ne hE hF)) rfl (Nat.le_of_ble_eq_true rfl) (by decide) (by decide) (by decide) (by decide) (fun E h2 n2 hx => aw_out rfl (by decide) (by decide) (by obtain ⟨s123, e123, rfl, rfl⟩ := hx; exact ⟨_, (fon_ex e123 hE).symm, rfl, rfl⟩)) (fun r123 h123 n123 hp123 => ?_)
  obtain ⟨z123, s123, e123, rfl, rfl, rfl⟩ := hp123
  replace hE := fon_ok e123 hE
  refine aw_aload_n dX4_decode_126 rfl ?_
  refine aw_aload_n dX4_decode_127 rfl ?_
  refine aw_callV dX4_decode_128 at_pcx cvX4_74 rfl (kF_X4_colour m0 sh rr r x ww so s123 pl qo pn bm tg px fa hb _ hr  (fon_ne hE hF)) rfl (Nat.le_of_ble_eq_true rfl) (by decide) (by decide) (by decide) (by decide) (fun _ _ _ hf => False.elim hf) (fun r128 h128 n128 hp128 => ?_)
  obtain ⟨z128, s128, e128, rfl, rfl, rfl⟩ := hp128
  replace hE := fon_ok e128 hE
  refine aw_aload_n dX4_decode_131 rfl ?_
  refine aw_aload_n dX4_decode_132 rfl ?_
  refine aw_getf (v := .int (px_bits px)) dX4_decode_133 flX4_65_3 at_pcx rfl ?_
  refine aw_putf dX4_decode_136 ptX4_78_3 at_pcx (Nat.le_of_ble_eq_true rfl) ⟨rfl, rfl⟩ ?_
  refine aw_eqh (h2 := HC m0 sh (va_up rr r s128) ww so s123 pl qo pn bm tg ((px_bits px), (px_f2 px), (px_f3 px), (px_ver px), (px_bits px), (px_per px), (px_planes px), (px_step px), (px_col px)) fa hb) up_pcx ?_
  refine aw_aload_n dX4_decode_139 rfl ?_
  refine aw_aload_n dX4_decode_140 rfl ?_
  refine aw_getf (v := .int (px_planes px)) dX4_decode_141 flX4_68_3 at_pcx rfl ?_
  refine aw_putf dX4_decode_144 ptX4_81_3 at_pcx (Nat.le_of_ble_eq_true rfl) ⟨rfl, rfl⟩ ?_
  refine aw_eqh (h2 := HC m0 sh (va_up rr r s128) ww so s123 pl qo pn bm tg ((px_bits px), (px_planes px), (px_f3 px), (px_ver px), (px_bits px), (px_per px), (px_planes px), (px_step px), (px_col px)) fa hb) up_pcx ?_
  refine aw_aload_n dX4_decode_147 rfl ?_
  refine aw_aload_n dX4_decode_148 rfl ?_
  refine aw_getf (v := .int (px_step px)) dX4_decode_149 flX4_84_3 at_pcx rfl ?_
  refine aw_putf dX4_decode_152 ptX4_87_3 at_pcx (Nat.le_of_ble_eq_true rfl) ⟨rfl, rfl⟩ ?_
  refine aw_eqh (h2 := HC m0 sh (va_up rr r s128) ww so s123 pl qo pn bm tg ((px_bits px), (px_planes px), (px_step px), (px_ver px), (px_bits px), (px_per px), (px_planes px), (px_step px), (px_col px)) fa hb) up_pcx ?_
  exact aw_vret dX4_decode_155 rfl (Nat.zero_le _) (Nat.zero_le _) (Nat.zero_le _) (Nat.zero_le _) ⟨_, _, hE.symm, rfl, rfl, rfl⟩
def F_X4_decode_70 (sb : A) (k70 : Int32 → Ras → Src → Pcx → Out (Ras × Src × Pcx) Unit) (v3 : Int32) (x : Ras) (sc : Src) (px : Pcx) : Out (Ras × Src × Pcx) Unit := if (x_g x) ≤ v3 then (if (px_bits px) = 8 then (if (px_planes px) = 1 then (fon (F_X8_want 12 sc sb) (fun z111 s111 => fon (F_X4_readColours 256 s111 sb px) (fun z119 s119 => F_X4_decode_122 sb x s119.1 s119.2) (fun E s119 => fex E (x, s119.1, s119.2))) (fun E s111 => fex E (x, s111, px))) else (F_X4_decode_122 sb x sc px)) else (F_X4_decode_122 sb x sc px)) else (fon (F_X4_readLine v3 x sc sb px) (fun z82 s82 => k70 (v3 + 1) s82.1 s82.2 px) (fun E s82 => fex E (s82.1, s82.2, px)))
set_option maxHeartbeats 1000000 in
set_option maxRecDepth 100000 in
theorem b_X4_decode_70 (m0 : Mnt) (sh : Nat → Nat) (rr : Nat → Ras) (r : Nat) (ww : Nat → Row) (so : Nat) (pl : Pal) (qo : Qoi) (pn : Pnm) (bm : Bmp) (tg : Tga) (fa : A) (hb : aH) (n : Nat) (hr : isR r) (hso : isW so) (k70 : Int32 → Ras → Src → Pcx → Out (Ras × Src × Pcx) Unit) (hk70 : Q_X4_decode_70 m0 sh rr r ww so pl qo pn bm tg fa hb n k70) : Q_X4_decode_70 m0 sh rr r ww so pl qo pn bm tg fa hb n (F_X4_decode_70 (y_b (ww so)) k70) := by
  intro v3 x sc px res hE hF
  unfold F_X4_decode_70 at hE
  refine aw_iload_n dX4_decode_70 rfl ?_
  refine aw_aload_n dX4_decode_71 rfl ?_
  refine aw_getf (v := .int (x_g x)) dX4_decode_72 flX4_58_6 (at_ras hr) rfl ?_
  refine aw_icmp_ge (tgt := 91) dX4_decode_75 (by decide) (fun c75 => ?_) (fun c75 => ?_)
  · replace hE := fit hE c75
    refine aw_aload_n dX4_decode_91 rfl ?_
    refine aw_getf (v := .int (px_bits px)) dX4_decode_92 flX4_65_3 at_pcx rfl ?_
    refine aw_bipush (v := 8) dX4_decode_95 (by decide) ?_
    refine aw_icmp_ne (tgt := 122) dX4_decode_97 (by decide) (fun c97 => ?_) (fun c97 => ?_)
    · replace hE := fif hE c97
      exact aw_lv _ (List.forall_mem_cons.mpr ⟨rfl, (List.forall_mem_cons.mpr ⟨rfl, (List.forall_mem_cons.mpr ⟨rfl, fun _ h => absurd h List.not_mem_nil⟩)⟩)⟩) (b_X4_decode_122 m0 sh rr r ww so pl qo pn bm tg fa hb n hr hso  x sc px _ hE hF)
    · replace hE := fit hE c97
      refine aw_aload_n dX4_decode_100 rfl ?_
      refine aw_getf (v := .int (px_planes px)) dX4_decode_101 flX4_68_3 at_pcx rfl ?_
      refine aw_iconst (v := 1) dX4_decode_104 (by decide) ?_
      refine aw_icmp_ne (tgt := 122) dX4_decode_105 (by decide) (fun c105 => ?_) (fun c105 => ?_)
      · replace hE := fif hE c105
        exact aw_lv _ (List.forall_mem_cons.mpr ⟨rfl, (List.forall_mem_cons.mpr ⟨rfl, (List.forall_mem_cons.mpr ⟨rfl, fun _ h => absurd h List.not_mem_nil⟩)⟩)⟩) (b_X4_decode_122 m0 sh rr r ww so pl qo pn bm tg fa hb n hr hso  x sc px _ hE hF)
      · replace hE := fit hE c105
        refine aw_aload_n dX4_decode_108 rfl ?_
        refine aw_bipush (v := 12) dX4_decode_109 (by decide) ?_
        refine aw_callV dX4_decode_111 at_src cvX4_19 rfl (kF_X8_want m0 sh (va_up rr r x) ww so sc pl qo pn bm tg px fa hb _ hso 12 (fon_ne hE hF)) rfl (Nat.le_of_ble_eq_true rfl) (by decide) (by decide) (by decide) (by decide) (fun E h2 n2 hx => aw_out rfl (by decide) (by decide) (by obtain ⟨s111, e111, rfl, rfl⟩ := hx; exact ⟨_, (fon_ex e111 hE).symm, rfl, rfl⟩)) (fun r111 h111 n111 hp111 => ?_)
        obtain ⟨z111, s111, e111, rfl, rfl, rfl⟩ := hp111
        replace hE := fon_ok e111 hE
        refine aw_aload_n dX4_decode_114 rfl ?_
        refine aw_aload_n dX4_decode_115 rfl ?_
        refine aw_sipush (v := 256) dX4_decode_116 (by decide) ?_
        refine aw_callV dX4_decode_119 at_pcx cvX4_39 rfl (kF_X4_readColours m0 sh (va_up rr r x) ww so s111 pl qo pn bm tg px fa hb _ hso 256 (fon_ne hE hF)) rfl (Nat.le_of_ble_eq_true rfl) (by decide) (by decide) (by decide) (by decide) (fun E h2 n2 hx => aw_out rfl (by decide) (by decide) (by obtain ⟨s119, e119, rfl, rfl⟩ := hx; exact ⟨_, (fon_ex e119 hE).symm, rfl, rfl⟩)) (fun r119 h119 n119 hp119 => ?_)
        obtain ⟨z119, s119, e119, rfl, rfl, rfl⟩ := hp119
        replace hE := fon_ok e119 hE
        exact aw_lv _ (List.forall_mem_cons.mpr ⟨rfl, (List.forall_mem_cons.mpr ⟨rfl, (List.forall_mem_cons.mpr ⟨rfl, fun _ h => absurd h List.not_mem_nil⟩)⟩)⟩) (b_X4_decode_122 m0 sh rr r ww so pl qo pn bm tg fa hb n hr hso  x s119.1 s119.2 _ hE hF)
  · replace hE := fif hE c75
    refine aw_aload_n dX4_decode_78 rfl ?_
    refine aw_aload_n dX4_decode_79 rfl ?_
    refine aw_aload_n dX4_decode_80 rfl ?_
    refine aw_iload_n dX4_decode_81 rfl ?_
    refine aw_callV dX4_decode_82 at_pcx cvX4_61 rfl (kF_X4_readLine m0 sh rr r x ww so sc pl qo pn bm tg px fa hb _ hr hso v3 (fon_ne hE hF)) rfl (Nat.le_of_ble_eq_true rfl) (by decide) (by decide) (by decide) (by decide) (fun E h2 n2 hx => aw_out rfl (by decide) (by decide) (by obtain ⟨s82, e82, rfl, rfl⟩ := hx; exact ⟨_, (fon_ex e82 hE).symm, rfl, rfl⟩)) (fun r82 h82 n82 hp82 => ?_)
    obtain ⟨z82, s82, e82, rfl, rfl, rfl⟩ := hp82
    replace hE := fon_ok e82 hE
    refine aw_iinc (v := (v3 + 1)) (lv2 := [(3, _), (0, _), (1, _), (2, _)]) dX4_decode_85 rfl (incE (by decide)) (by decide) rfl ?_
    refine aw_goto (tgt := 70) dX4_decode_88 (by decide) ?_
    exact aw_lv _ (List.forall_mem_cons.mpr ⟨rfl, (List.forall_mem_cons.mpr ⟨rfl, (List.forall_mem_cons.mpr ⟨rfl, (List.forall_mem_cons.mpr ⟨rfl, fun _ h => absurd h List.not_mem_nil⟩)⟩)⟩)⟩) (hk70 (v3 + 1) s82.1 s82.2 px _ hE hF)
def F_X4_decode (x : Ras) (sc : Src) (sb : A) (px : Pcx) : Out (Ras × Src × Pcx) Unit := fon (F_X8_want 10 sc sb) (fun z3 s3 => fon (F_X4_readVersion s3 sb px) (fun z8 s8 => fon (F_X8_want 1 s8.1 sb) (fun z13 s13 => fon (F_X4_readBits s13 sb s8.2) (fun z18 s18 => fon (F_X4_readSize x s18.1 sb) (fun z23 s23 => fon (F_X8_pass 4 s23.2 sb) (fun z28 s28 => fon (F_X4_readColours 16 s28 sb s18.2) (fun z35 s35 => fon (F_X8_pass 1 s35.1 sb) (fun z40 s40 => fon (F_X4_readPlanes s40 sb s35.2) (fun z45 s45 => fon (F_X4_readStep (x_w s23.1) s45.1 sb s45.2) (fun z54 s54 => fon (F_X8_pass 60 s54.1 sb) (fun z60 s60 => fon (F_X7_fill 0 s23.1) (fun z65 s65 => lp (fun _ _ _ _ => fno) (F_X4_decode_70 sb) FU (0 : Int32) s65 s60 s54.2) (fun _ _ => fno)) (fun E s60 => fex E (s23.1, s60, s54.2))) (fun E s54 => fex E (s23.1, s54.1, s54.2))) (fun E s45 => fex E (s23.1, s45.1, s45.2))) (fun E s40 => fex E (s23.1, s40, s35.2))) (fun E s35 => fex E (s23.1, s35.1, s35.2))) (fun E s28 => fex E (s23.1, s28, s18.2))) (fun E s23 => fex E (s23.1, s23.2, s18.2))) (fun E s18 => fex E (x, s18.1, s18.2))) (fun E s13 => fex E (x, s13, s8.2))) (fun E s8 => fex E (x, s8.1, s8.2))) (fun E s3 => fex E (x, s3, px))
set_option maxHeartbeats 1000000 in
set_option maxRecDepth 100000 in
theorem kF_X4_decode (m0 : Mnt) (sh : Nat → Nat) (rr : Nat → Ras) (r : Nat) (x : Ras) (ww : Nat → Row) (so : Nat) (sc : Src) (pl : Pal) (qo : Qoi) (pn : Pnm) (bm : Bmp) (tg : Tga) (px : Pcx) (fa : A) (hb : aH) (n : Nat) (hr : isR r) (hso : isW so)  (hF : F_X4_decode x sc (y_b (ww so)) px ≠ fno) : AM mX4_decode 6 [.ref 28, .ref 16, .ref r] (HC m0 sh (va_up rr r x) ww so sc pl qo pn bm tg px fa hb) n 1 6 0 0 (P_X4_decode m0 sh rr r ww so pl qo pn bm tg fa hb n (F_X4_decode x sc (y_b (ww so)) px)) (X_X4_decode m0 sh rr r ww so pl qo pn bm tg fa hb n (F_X4_decode x sc (y_b (ww so)) px)) := by
  generalize hE : F_X4_decode x sc (y_b (ww so)) px = res at hF ⊢
  refine aw_of (by decide +kernel) rfl (Nat.le_of_ble_eq_true rfl) ?_
  unfold F_X4_decode at hE
  refine aw_aload_n dX4_decode_0 rfl ?_
  refine aw_bipush (v := 10) dX4_decode_1 (by decide) ?_
  refine aw_callV dX4_decode_3 at_src cvX4_19 rfl (kF_X8_want m0 sh (va_up rr r x) ww so sc pl qo pn bm tg px fa hb _ hso 10 (fon_ne hE hF)) rfl (Nat.le_of_ble_eq_true rfl) (by decide) (by decide) (by decide) (by decide) (fun E h2 n2 hx => aw_out rfl (by decide) (by decide) (by obtain ⟨s3, e3, rfl, rfl⟩ := hx; exact ⟨_, (fon_ex e3 hE).symm, rfl, rfl⟩)) (fun r3 h3 n3 hp3 => ?_)
  obtain ⟨z3, s3, e3, rfl, rfl, rfl⟩ := hp3
  replace hE := fon_ok e3 hE
  refine aw_aload_n dX4_decode_6 rfl ?_
  refine aw_aload_n dX4_decode_7 rfl ?_
  refine aw_callV dX4_decode_8 at_pcx cvX4_25 rfl (kF_X4_readVersion m0 sh (va_up rr r x) ww so s3 pl qo pn bm tg px fa hb _ hso  (fon_ne hE hF)) rfl (Nat.le_of_ble_eq_true rfl) (by decide) (by decide) (by decide) (by decide) (fun E h2 n2 hx => aw_out rfl (by decide) (by decide) (by obtain ⟨s8, e8, rfl, rfl⟩ := hx; exact ⟨_, (fon_ex e8 hE).symm, rfl, rfl⟩)) (fun r8 h8 n8 hp8 => ?_)
  obtain ⟨z8, s8, e8, rfl, rfl, rfl⟩ := hp8
  replace hE := fon_ok e8 hE
  refine aw_aload_n dX4_decode_11 rfl ?_
  refine aw_iconst (v := 1) dX4_decode_12 (by decide) ?_
  refine aw_callV dX4_decode_13 at_src cvX4_19 rfl (kF_X8_want m0 sh (va_up rr r x) ww so s8.1 pl qo pn bm tg s8.2 fa hb _ hso 1 (fon_ne hE hF)) rfl (Nat.le_of_ble_eq_true rfl) (by decide) (by decide) (by decide) (by decide) (fun E h2 n2 hx => aw_out rfl (by decide) (by decide) (by obtain ⟨s13, e13, rfl, rfl⟩ := hx; exact ⟨_, (fon_ex e13 hE).symm, rfl, rfl⟩)) (fun r13 h13 n13 hp13 => ?_)
  obtain ⟨z13, s13, e13, rfl, rfl, rfl⟩ := hp13
  replace hE := fon_ok e13 hE
  refine aw_aload_n dX4_decode_16 rfl ?_
  refine aw_aload_n dX4_decode_17 rfl ?_
  refine aw_callV dX4_decode_18 at_pcx cvX4_29 rfl (kF_X4_readBits m0 sh (va_up rr r x) ww so s13 pl qo pn bm tg s8.2 fa hb _ hso  (fon_ne hE hF)) rfl (Nat.le_of_ble_eq_true rfl) (by decide) (by decide) (by decide) (by decide) (fun E h2 n2 hx => aw_out rfl (by decide) (by decide) (by obtain ⟨s18, e18, rfl, rfl⟩ := hx; exact ⟨_, (fon_ex e18 hE).symm, rfl, rfl⟩)) (fun r18 h18 n18 hp18 => ?_)
  obtain ⟨z18, s18, e18, rfl, rfl, rfl⟩ := hp18
  replace hE := fon_ok e18 hE
  refine aw_aload_n dX4_decode_21 rfl ?_
  refine aw_aload_n dX4_decode_22 rfl ?_
  refine aw_callS dX4_decode_23  csX4_32 rfl (kF_X4_readSize m0 sh rr r x ww so s18.1 pl qo pn bm tg s18.2 fa hb _ hr hso  (fon_ne hE hF)) rfl (Nat.le_of_ble_eq_true rfl) (by decide) (by decide) (by decide) (by decide) (fun E h2 n2 hx => aw_out rfl (by decide) (by decide) (by obtain ⟨s23, e23, rfl, rfl⟩ := hx; exact ⟨_, (fon_ex e23 hE).symm, rfl, rfl⟩)) (fun r23 h23 n23 hp23 => ?_)
  obtain ⟨z23, s23, e23, rfl, rfl, rfl⟩ := hp23
  replace hE := fon_ok e23 hE
  refine aw_aload_n dX4_decode_26 rfl ?_
  refine aw_iconst (v := 4) dX4_decode_27 (by decide) ?_
  refine aw_callV dX4_decode_28 at_src cvX4_36 rfl (kF_X8_pass m0 sh (va_up rr r s23.1) ww so s23.2 pl qo pn bm tg s18.2 fa hb _ hso 4 (fon_ne hE hF)) rfl (Nat.le_of_ble_eq_true rfl) (by decide) (by decide) (by decide) (by decide) (fun E h2 n2 hx => aw_out rfl (by decide) (by decide) (by obtain ⟨s28, e28, rfl, rfl⟩ := hx; exact ⟨_, (fon_ex e28 hE).symm, rfl, rfl⟩)) (fun r28 h28 n28 hp28 => ?_)
  obtain ⟨z28, s28, e28, rfl, rfl, rfl⟩ := hp28
  replace hE := fon_ok e28 hE
  refine aw_aload_n dX4_decode_31 rfl ?_
  refine aw_aload_n dX4_decode_32 rfl ?_
  refine aw_bipush (v := 16) dX4_decode_33 (by decide) ?_
  refine aw_callV dX4_decode_35 at_pcx cvX4_39 rfl (kF_X4_readColours m0 sh (va_up rr r s23.1) ww so s28 pl qo pn bm tg s18.2 fa hb _ hso 16 (fon_ne hE hF)) rfl (Nat.le_of_ble_eq_true rfl) (by decide) (by decide) (by decide) (by decide) (fun E h2 n2 hx => aw_out rfl (by decide) (by decide) (by obtain ⟨s35, e35, rfl, rfl⟩ := hx; exact ⟨_, (fon_ex e35 hE).symm, rfl, rfl⟩)) (fun r35 h35 n35 hp35 => ?_)
  obtain ⟨z35, s35, e35, rfl, rfl, rfl⟩ := hp35
  replace hE := fon_ok e35 hE
  refine aw_aload_n dX4_decode_38 rfl ?_
  refine aw_iconst (v := 1) dX4_decode_39 (by decide) ?_
  refine aw_callV dX4_decode_40 at_src cvX4_36 rfl (kF_X8_pass m0 sh (va_up rr r s23.1) ww so s35.1 pl qo pn bm tg s35.2 fa hb _ hso 1 (fon_ne hE hF)) rfl (Nat.le_of_ble_eq_true rfl) (by decide) (by decide) (by decide) (by decide) (fun E h2 n2 hx => aw_out rfl (by decide) (by decide) (by obtain ⟨s40, e40, rfl, rfl⟩ := hx; exact ⟨_, (fon_ex e40 hE).symm, rfl, rfl⟩)) (fun r40 h40 n40 hp40 => ?_)
  obtain ⟨z40, s40, e40, rfl, rfl, rfl⟩ := hp40
  replace hE := fon_ok e40 hE
  refine aw_aload_n dX4_decode_43 rfl ?_
  refine aw_aload_n dX4_decode_44 rfl ?_
  refine aw_callV dX4_decode_45 at_pcx cvX4_43 rfl (kF_X4_readPlanes m0 sh (va_up rr r s23.1) ww so s40 pl qo pn bm tg s35.2 fa hb _ hso  (fon_ne hE hF)) rfl (Nat.le_of_ble_eq_true rfl) (by decide) (by decide) (by decide) (by decide) (fun E h2 n2 hx => aw_out rfl (by decide) (by decide) (by obtain ⟨s45, e45, rfl, rfl⟩ := hx; exact ⟨_, (fon_ex e45 hE).symm, rfl, rfl⟩)) (fun r45 h45 n45 hp45 => ?_)
  obtain ⟨z45, s45, e45, rfl, rfl, rfl⟩ := hp45
  replace hE := fon_ok e45 hE
  refine aw_aload_n dX4_decode_48 rfl ?_
  refine aw_aload_n dX4_decode_49 rfl ?_
  refine aw_aload_n dX4_decode_50 rfl ?_
  refine aw_getf (v := .int (x_w s23.1)) dX4_decode_51 flX4_46_6 (at_ras hr) rfl ?_
  refine aw_callV dX4_decode_54 at_pcx cvX4_52 rfl (kF_X4_readStep m0 sh (va_up rr r s23.1) ww so s45.1 pl qo pn bm tg s45.2 fa hb _ hso (x_w s23.1) (fon_ne hE hF)) rfl (Nat.le_of_ble_eq_true rfl) (by decide) (by decide) (by decide) (by decide) (fun E h2 n2 hx => aw_out rfl (by decide) (by decide) (by obtain ⟨s54, e54, rfl, rfl⟩ := hx; exact ⟨_, (fon_ex e54 hE).symm, rfl, rfl⟩)) (fun r54 h54 n54 hp54 => ?_)
  obtain ⟨z54, s54, e54, rfl, rfl, rfl⟩ := hp54
  replace hE := fon_ok e54 hE
  refine aw_aload_n dX4_decode_57 rfl ?_
  refine aw_bipush (v := 60) dX4_decode_58 (by decide) ?_
  refine aw_callV dX4_decode_60 at_src cvX4_36 rfl (kF_X8_pass m0 sh (va_up rr r s23.1) ww so s54.1 pl qo pn bm tg s54.2 fa hb _ hso 60 (fon_ne hE hF)) rfl (Nat.le_of_ble_eq_true rfl) (by decide) (by decide) (by decide) (by decide) (fun E h2 n2 hx => aw_out rfl (by decide) (by decide) (by obtain ⟨s60, e60, rfl, rfl⟩ := hx; exact ⟨_, (fon_ex e60 hE).symm, rfl, rfl⟩)) (fun r60 h60 n60 hp60 => ?_)
  obtain ⟨z60, s60, e60, rfl, rfl, rfl⟩ := hp60
  replace hE := fon_ok e60 hE
  refine aw_aload_n dX4_decode_63 rfl ?_
  refine aw_iconst (v := 0) dX4_decode_64 (by decide) ?_
  refine aw_callV dX4_decode_65 (at_ras hr) cvX4_55 rfl (kF_X7_fill m0 sh rr r s23.1 ww so s60 pl qo pn bm tg s54.2 fa hb _ hr 0 (fon_ne hE hF)) rfl (Nat.le_of_ble_eq_true rfl) (by decide) (by decide) (by decide) (by decide) (fun _ _ _ hf => False.elim hf) (fun r65 h65 n65 hp65 => ?_)
  obtain ⟨z65, s65, e65, rfl, rfl, rfl⟩ := hp65
  replace hE := fon_ok e65 hE
  refine aw_iconst (v := 0) dX4_decode_68 (by decide) ?_
  refine aw_istore_n (lv2 := [(3, _), (0, _), (1, _), (2, _)]) dX4_decode_69 (by decide) rfl ?_
  exact aw_lv _ (List.forall_mem_cons.mpr ⟨rfl, (List.forall_mem_cons.mpr ⟨rfl, (List.forall_mem_cons.mpr ⟨rfl, (List.forall_mem_cons.mpr ⟨rfl, fun _ h => absurd h List.not_mem_nil⟩)⟩)⟩)⟩) (lp_ind (Q_X4_decode_70 m0 sh rr r ww so pl qo pn bm tg fa hb n) (fun _ _ _ _ res hq hF => (hF hq.symm).elim) (fun k hk => b_X4_decode_70 m0 sh rr r ww so pl qo pn bm tg fa hb n hr hso  k hk) FU (0 : Int32) s65 s60 s54.2 _ hE hF)
def P_X5_readSize (m0 : Mnt) (sh : Nat → Nat) (rr : Nat → Ras) (r : Nat) (ww : Nat → Row) (so : Nat) (pl : Pal) (qo : Qoi) (bm : Bmp) (tg : Tga) (px : Pcx) (fa : A) (hb : aH) (n : Nat) (res : Out (Ras × Src × Pnm) Unit) : Option Value → aH → Nat → Prop := fun r1 h2 n2 => ∃ (a : Unit) (s : (Ras × Src × Pnm)), res = fok a s ∧ r1 = none ∧ h2 = HC m0 sh (va_up rr r s.1) ww so s.2.1 pl qo s.2.2 bm tg px fa hb ∧ n = n2
def X_X5_readSize (m0 : Mnt) (sh : Nat → Nat) (rr : Nat → Ras) (r : Nat) (ww : Nat → Row) (so : Nat) (pl : Pal) (qo : Qoi) (bm : Bmp) (tg : Tga) (px : Pcx) (fa : A) (hb : aH) (n : Nat) (res : Out (Ras × Src × Pnm) Unit) : String → aH → Nat → Prop := fun E h2 n2 => ∃ s : (Ras × Src × Pnm), res = fex E s ∧ h2 = HC m0 sh (va_up rr r s.1) ww so s.2.1 pl qo s.2.2 bm tg px fa hb ∧ n = n2
def F_X5_readSize (x : Ras) (sc : Src) (sb : A) (pn : Pnm) : Out (Ras × Src × Pnm) Unit := fon (F_X5_passGap sc sb) (fun z1 s1 => fon (F_X5_readNumber s1 sb pn) (fun z6 s6 => fon (F_X5_askNumber z6 1000000 s6.1 s6.2) (fun z15 s15 => if z6 ≤ 4096 then (fon (F_X5_passGap s15 sb) (fun z35 s35 => fon (F_X5_readNumber s35 sb s6.2) (fun z40 s40 => fon (F_X5_askNumber z40 1000000 s40.1 s40.2) (fun z51 s51 => fon (F_X8_lay ((z6).toInt64) ((z40).toInt64) (pn_np s40.2) x s51) (fun z65 s65 => fok () (s65.1, s65.2, s40.2)) (fun E s65 => fex E (s65.1, s65.2, s40.2))) (fun E s51 => fex E (x, s51, s40.2))) (fun E s40 => fex E (x, s40.1, s40.2))) (fun E s35 => fex E (x, s35, s6.2))) else (fon (F_X8_refuse 3 (pn_np s6.2) s15) (fun _ _ => fno) (fun E s31 => fex E (x, s31, s6.2)))) (fun E s15 => fex E (x, s15, s6.2))) (fun E s6 => fex E (x, s6.1, s6.2))) (fun E s1 => fex E (x, s1, pn))
set_option maxHeartbeats 1000000 in
set_option maxRecDepth 100000 in
theorem kF_X5_readSize (m0 : Mnt) (sh : Nat → Nat) (rr : Nat → Ras) (r : Nat) (x : Ras) (ww : Nat → Row) (so : Nat) (sc : Src) (pl : Pal) (qo : Qoi) (pn : Pnm) (bm : Bmp) (tg : Tga) (px : Pcx) (fa : A) (hb : aH) (n : Nat) (hr : isR r) (hso : isW so)  (hF : F_X5_readSize x sc (y_b (ww so)) pn ≠ fno) : AM mX5_readSize 5 [.ref 23, .ref 16, .ref r] (HC m0 sh (va_up rr r x) ww so sc pl qo pn bm tg px fa hb) n 1 6 0 0 (P_X5_readSize m0 sh rr r ww so pl qo bm tg px fa hb n (F_X5_readSize x sc (y_b (ww so)) pn)) (X_X5_readSize m0 sh rr r ww so pl qo bm tg px fa hb n (F_X5_readSize x sc (y_b (ww so)) pn)) := by
  generalize hE : F_X5_readSize x sc (y_b (ww so)) pn = res at hF ⊢
  refine aw_of (by decide +kernel) rfl (Nat.le_of_ble_eq_true rfl) ?_
  unfold F_X5_readSize at hE
  refine aw_aload_n dX5_readSize_0 rfl ?_
  refine aw_callS dX5_readSize_1  csX5_32 rfl (kF_X5_passGap m0 sh (va_up rr r x) ww so sc pl qo pn bm tg px fa hb _ hso  (fon_ne hE hF)) rfl (Nat.le_of_ble_eq_true rfl) (by decide) (by decide) (by decide) (by decide) (fun E h2 n2 hx => aw_out rfl (by decide) (by decide) (by obtain ⟨s1, e1, rfl, rfl⟩ := hx; exact ⟨_, (fon_ex e1 hE).symm, rfl, rfl⟩)) (fun r1 h1 n1 hp1 => ?_)
  obtain ⟨z1, s1, e1, rfl, rfl, rfl⟩ := hp1
  replace hE := fon_ok e1 hE
  refine aw_aload_n dX5_readSize_4 rfl ?_
  refine aw_aload_n dX5_readSize_5 rfl ?_
  refine aw_callV dX5_readSize_6 at_pnm cvX5_35 rfl (kF_X5_readNumber m0 sh (va_up rr r x) ww so s1 pl qo pn bm tg px fa hb _ hso  (fon_ne hE hF)) rfl (Nat.le_of_ble_eq_true rfl) (by decide) (by decide) (by decide) (by decide) (fun E h2 n2 hx => aw_out rfl (by decide) (by decide) (by obtain ⟨s6, e6, rfl, rfl⟩ := hx; exact ⟨_, (fon_ex e6 hE).symm, rfl, rfl⟩)) (fun r6 h6 n6 hp6 => ?_)
  obtain ⟨z6, s6, e6, rfl, rfl, rfl⟩ := hp6
  replace hE := fon_ok e6 hE
  refine aw_istore_n (lv2 := [(3, _), (0, _), (1, _), (2, _)]) dX5_readSize_9 (by decide) rfl ?_
  refine aw_aload_n dX5_readSize_10 rfl ?_
  refine aw_aload_n dX5_readSize_11 rfl ?_
  refine aw_iload_n dX5_readSize_12 rfl ?_
  refine aw_ldc dX5_readSize_13 kcX5_76 ?_
  refine aw_callV dX5_readSize_15 at_pnm cvX5_40 rfl (kF_X5_askNumber m0 sh (va_up rr r x) ww so s6.1 pl qo s6.2 bm tg px fa hb _  z6 1000000 (fon_ne hE hF)) rfl (Nat.le_of_ble_eq_true rfl) (by decide) (by decide) (by decide) (by decide) (fun E h2 n2 hx => aw_out rfl (by decide) (by decide) (by obtain ⟨s15, e15, rfl, rfl⟩ := hx; exact ⟨_, (fon_ex e15 hE).symm, rfl, rfl⟩)) (fun r15 h15 n15 hp15 => ?_)
  obtain ⟨z15, s15, e15, rfl, rfl, rfl⟩ := hp15
  replace hE := fon_ok e15 hE
  refine aw_iload_n dX5_readSize_18 rfl ?_
  refine aw_sipush (v := 4096) dX5_readSize_19 (by decide) ?_
  refine aw_icmp_le (tgt := 34) dX5_readSize_22 (by decide) (fun c22 => ?_) (fun c22 => ?_)
  · replace hE := fit hE c22
    refine aw_aload_n dX5_readSize_34 rfl ?_
    refine aw_callS dX5_readSize_35  csX5_32 rfl (kF_X5_passGap m0 sh (va_up rr r x) ww so s15 pl qo s6.2 bm tg px fa hb _ hso  (fon_ne hE hF)) rfl (Nat.le_of_ble_eq_true rfl) (by decide) (by decide) (by decide) (by decide) (fun E h2 n2 hx => aw_out rfl (by decide) (by decide) (by obtain ⟨s35, e35, rfl, rfl⟩ := hx; exact ⟨_, (fon_ex e35 hE).symm, rfl, rfl⟩)) (fun r35 h35 n35 hp35 => ?_)
    obtain ⟨z35, s35, e35, rfl, rfl, rfl⟩ := hp35
    replace hE := fon_ok e35 hE
    refine aw_aload_n dX5_readSize_38 rfl ?_
    refine aw_aload_n dX5_readSize_39 rfl ?_
    refine aw_callV dX5_readSize_40 at_pnm cvX5_35 rfl (kF_X5_readNumber m0 sh (va_up rr r x) ww so s35 pl qo s6.2 bm tg px fa hb _ hso  (fon_ne hE hF)) rfl (Nat.le_of_ble_eq_true rfl) (by decide) (by decide) (by decide) (by decide) (fun E h2 n2 hx => aw_out rfl (by decide) (by decide) (by obtain ⟨s40, e40, rfl, rfl⟩ := hx; exact ⟨_, (fon_ex e40 hE).symm, rfl, rfl⟩)) (fun r40 h40 n40 hp40 => ?_)
    obtain ⟨z40, s40, e40, rfl, rfl, rfl⟩ := hp40
    replace hE := fon_ok e40 hE
    refine aw_istore (lv2 := [(4, _), (3, _), (0, _), (1, _), (2, _)]) dX5_readSize_43 (by decide) rfl ?_
    refine aw_aload_n dX5_readSize_45 rfl ?_
    refine aw_aload_n dX5_readSize_46 rfl ?_
    refine aw_iload dX5_readSize_47 rfl ?_
    refine aw_ldc dX5_readSize_49 kcX5_76 ?_
    refine aw_callV dX5_readSize_51 at_pnm cvX5_40 rfl (kF_X5_askNumber m0 sh (va_up rr r x) ww so s40.1 pl qo s40.2 bm tg px fa hb _  z40 1000000 (fon_ne hE hF)) rfl (Nat.le_of_ble_eq_true rfl) (by decide) (by decide) (by decide) (by decide) (fun E h2 n2 hx => aw_out rfl (by decide) (by decide) (by obtain ⟨s51, e51, rfl, rfl⟩ := hx; exact ⟨_, (fon_ex e51 hE).symm, rfl, rfl⟩)) (fun r51 h51 n51 hp51 => ?_)
    obtain ⟨z51, s51, e51, rfl, rfl, rfl⟩ := hp51
    replace hE := fon_ok e51 hE
    refine aw_aload_n dX5_readSize_54 rfl ?_
    refine aw_aload_n dX5_readSize_55 rfl ?_
    refine aw_iload_n dX5_readSize_56 rfl ?_
    refine aw_i2l dX5_readSize_57 ?_
    refine aw_iload dX5_readSize_58 rfl ?_
    refine aw_i2l dX5_readSize_60 ?_
    refine aw_aload_n dX5_readSize_61 rfl ?_
    refine aw_getf (v := .int (pn_np s40.2)) dX5_readSize_62 flX5_77_4 at_pnm rfl ?_
    refine aw_callV dX5_readSize_65 at_src cvX5_80 rfl (kF_X8_lay m0 sh rr r x ww so s51 pl qo s40.2 bm tg px fa hb _ hr ((z6).toInt64) ((z40).toInt64) (pn_np s40.2) (fon_ne hE hF)) rfl (Nat.le_of_ble_eq_true rfl) (by decide) (by decide) (by decide) (by decide) (fun E h2 n2 hx => aw_out rfl (by decide) (by decide) (by obtain ⟨s65, e65, rfl, rfl⟩ := hx; exact ⟨_, (fon_ex e65 hE).symm, rfl, rfl⟩)) (fun r65 h65 n65 hp65 => ?_)
    obtain ⟨z65, s65, e65, rfl, rfl, rfl⟩ := hp65
    replace hE := fon_ok e65 hE
    exact aw_vret dX5_readSize_68 rfl (Nat.zero_le _) (Nat.zero_le _) (Nat.zero_le _) (Nat.zero_le _) ⟨_, _, hE.symm, rfl, rfl, rfl⟩
  · replace hE := fif hE c22
    refine aw_aload_n dX5_readSize_25 rfl ?_
    refine aw_iconst (v := 3) dX5_readSize_26 (by decide) ?_
    refine aw_aload_n dX5_readSize_27 rfl ?_
    refine aw_getf (v := .int (pn_np s6.2)) dX5_readSize_28 flX5_77_4 at_pnm rfl ?_
    refine aw_callV dX5_readSize_31 at_src cvX5_72 rfl (kF_X8_refuse m0 sh (va_up rr r x) ww so s15 pl qo s6.2 bm tg px fa hb _  3 (pn_np s6.2) (fon_ne hE hF)) rfl (Nat.le_of_ble_eq_true rfl) (by decide) (by decide) (by decide) (by decide) (fun E h2 n2 hx => aw_out rfl (by decide) (by decide) (by obtain ⟨s31, e31, rfl, rfl⟩ := hx; exact ⟨_, (fon_ex e31 hE).symm, rfl, rfl⟩)) (fun r31 h31 n31 hp31 => ?_)
    obtain ⟨z31, s31, e31, rfl, rfl, rfl⟩ := hp31
    exact (hF (fon_ok e31 hE).symm).elim
