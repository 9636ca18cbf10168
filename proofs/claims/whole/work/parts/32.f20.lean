def P_X9_readColour (m0 : Mnt) (sh : Nat → Nat) (rr : Nat → Ras) (ww : Nat → Row) (so : Nat) (pl : Pal) (qo : Qoi) (pn : Pnm) (bm : Bmp) (tg : Tga) (px : Pcx) (fa : A) (hb : aH) (n : Nat) (res : Out Src Int32) : Option Value → aH → Nat → Prop := fun r1 h2 n2 => ∃ (a : Int32) (s : Src), res = fok a s ∧ r1 = some (.int a) ∧ h2 = HC m0 sh rr ww so s pl qo pn bm tg px fa hb ∧ n = n2
def X_X9_readColour (m0 : Mnt) (sh : Nat → Nat) (rr : Nat → Ras) (ww : Nat → Row) (so : Nat) (pl : Pal) (qo : Qoi) (pn : Pnm) (bm : Bmp) (tg : Tga) (px : Pcx) (fa : A) (hb : aH) (n : Nat) (res : Out Src Int32) : String → aH → Nat → Prop := fun E h2 n2 => ∃ s : Src, res = fex E s ∧ h2 = HC m0 sh rr ww so s pl qo pn bm tg px fa hb ∧ n = n2
abbrev Q_X9_readColour_48 (m0 : Mnt) (sh : Nat → Nat) (rr : Nat → Ras) (ww : Nat → Row) (so : Nat) (pl : Pal) (qo : Qoi) (pn : Pnm) (bm : Bmp) (tg : Tga) (px : Pcx) (fa : A) (hb : aH) (n : Nat) (k : Int32 → Int32 → Src → Out Src Int32) : Prop := ∀ (v3 : Int32) (v4 : Int32) (sc : Src) (res : Out Src Int32), k v3 v4 sc = res → res ≠ fno → AW (fun _ _ => True) mX9_readColour (rmD 4 1 6) 0 0 (P_X9_readColour m0 sh rr ww so pl qo pn bm tg px fa hb n res) (X_X9_readColour m0 sh rr ww so pl qo pn bm tg px fa hb n res) 0 0 48 [(3, .int v3), (4, .int v4)] [] (HC m0 sh rr ww so sc pl qo pn bm tg px fa hb) n
abbrev Q_X9_readColour_49 (m0 : Mnt) (sh : Nat → Nat) (rr : Nat → Ras) (ww : Nat → Row) (so : Nat) (pl : Pal) (qo : Qoi) (pn : Pnm) (bm : Bmp) (tg : Tga) (px : Pcx) (fa : A) (hb : aH) (n : Nat) (k : Int32 → Int32 → Int32 → Src → Out Src Int32) : Prop := ∀ (v3 : Int32) (v4 : Int32) (t0 : Int32) (sc : Src) (res : Out Src Int32), k v3 v4 t0 sc = res → res ≠ fno → AW (fun _ _ => True) mX9_readColour (rmD 4 1 6) 0 0 (P_X9_readColour m0 sh rr ww so pl qo pn bm tg px fa hb n res) (X_X9_readColour m0 sh rr ww so pl qo pn bm tg px fa hb n res) 0 0 49 [(3, .int v3), (4, .int v4)] [.int t0] (HC m0 sh rr ww so sc pl qo pn bm tg px fa hb) n
abbrev Q_X9_readColour_70 (m0 : Mnt) (sh : Nat → Nat) (rr : Nat → Ras) (ww : Nat → Row) (so : Nat) (pl : Pal) (qo : Qoi) (pn : Pnm) (bm : Bmp) (tg : Tga) (px : Pcx) (fa : A) (hb : aH) (n : Nat) (k : Int32 → Int32 → Src → Out Src Int32) : Prop := ∀ (t0 : Int32) (t1 : Int32) (sc : Src) (res : Out Src Int32), k t0 t1 sc = res → res ≠ fno → AW (fun _ _ => True) mX9_readColour (rmD 4 1 6) 0 0 (P_X9_readColour m0 sh rr ww so pl qo pn bm tg px fa hb n res) (X_X9_readColour m0 sh rr ww so pl qo pn bm tg px fa hb n res) 0 0 70 [] [.int t0, .int t1] (HC m0 sh rr ww so sc pl qo pn bm tg px fa hb) n
abbrev Q_X9_readColour_96 (m0 : Mnt) (sh : Nat → Nat) (rr : Nat → Ras) (ww : Nat → Row) (so : Nat) (pl : Pal) (qo : Qoi) (pn : Pnm) (bm : Bmp) (tg : Tga) (px : Pcx) (fa : A) (hb : aH) (n : Nat) (k : Int32 → Int32 → Int32 → Int32 → Src → Out Src Int32) : Prop := ∀ (v3 : Int32) (v4 : Int32) (v5 : Int32) (t0 : Int32) (sc : Src) (res : Out Src Int32), k v3 v4 v5 t0 sc = res → res ≠ fno → AW (fun _ _ => True) mX9_readColour (rmD 4 1 6) 0 0 (P_X9_readColour m0 sh rr ww so pl qo pn bm tg px fa hb n res) (X_X9_readColour m0 sh rr ww so pl qo pn bm tg px fa hb n res) 0 0 96 [(0, .ref 26), (3, .int v3), (4, .int v4), (5, .int v5)] [.int t0] (HC m0 sh rr ww so sc pl qo pn bm tg px fa hb) n
abbrev Q_X9_readColour_120 (m0 : Mnt) (sh : Nat → Nat) (rr : Nat → Ras) (ww : Nat → Row) (so : Nat) (pl : Pal) (qo : Qoi) (pn : Pnm) (bm : Bmp) (tg : Tga) (px : Pcx) (fa : A) (hb : aH) (n : Nat) (k : Int32 → Int32 → Int32 → Int32 → Src → Out Src Int32) : Prop := ∀ (t0 : Int32) (t1 : Int32) (t2 : Int32) (t3 : Int32) (sc : Src) (res : Out Src Int32), k t0 t1 t2 t3 sc = res → res ≠ fno → AW (fun _ _ => True) mX9_readColour (rmD 4 1 6) 0 0 (P_X9_readColour m0 sh rr ww so pl qo pn bm tg px fa hb n res) (X_X9_readColour m0 sh rr ww so pl qo pn bm tg px fa hb n res) 0 0 120 [] [.int t0, .int t1, .int t2, .int t3] (HC m0 sh rr ww so sc pl qo pn bm tg px fa hb) n
def F_X9_readColour_120 (sb : A) (tg : Tga)  (t0 : Int32) (t1 : Int32) (t2 : Int32) (t3 : Int32) (sc : Src) : Out Src Int32 := fok ((F_X10_pixelOf t3 t2 t1 t0) : Int32) sc
set_option maxHeartbeats 1000000 in
set_option maxRecDepth 100000 in
theorem b_X9_readColour_120 (m0 : Mnt) (sh : Nat → Nat) (rr : Nat → Ras) (ww : Nat → Row) (so : Nat) (pl : Pal) (qo : Qoi) (pn : Pnm) (bm : Bmp) (tg : Tga) (px : Pcx) (fa : A) (hb : aH) (n : Nat) (hso : isW so)  : Q_X9_readColour_120 m0 sh rr ww so pl qo pn bm tg px fa hb n (F_X9_readColour_120 (y_b (ww so)) tg) := by
  intro t0 t1 t2 t3 sc res hE hF
  unfold F_X9_readColour_120 at hE
  refine aw_callSN dX9_readColour_120  csX9_155 rfl (kF_X10_pixelOf _ _ t3 t2 t1 t0) rfl (Nat.le_of_ble_eq_true rfl) (by decide) (by decide) (by decide) (by decide)  (fun r120 h120 n120 hp120 => ?_)
  obtain ⟨rfl, rfl, rfl⟩ := hp120
  exact aw_iret dX9_readColour_123 rfl (Nat.zero_le _) (Nat.zero_le _) (Nat.zero_le _) (Nat.zero_le _) ⟨_, _, hE.symm, rfl, rfl, rfl⟩
def F_X9_readColour_96 (sb : A) (tg : Tga)  (v3 : Int32) (v4 : Int32) (v5 : Int32) (t0 : Int32) (sc : Src) : Out Src Int32 := if (tg_ab tg) = 8 then (F_X9_readColour_120 sb tg t0 v3 v4 v5 sc) else (F_X9_readColour_120 sb tg (255 : Int32) v3 v4 v5 sc)
set_option maxHeartbeats 1000000 in
set_option maxRecDepth 100000 in
theorem b_X9_readColour_96 (m0 : Mnt) (sh : Nat → Nat) (rr : Nat → Ras) (ww : Nat → Row) (so : Nat) (pl : Pal) (qo : Qoi) (pn : Pnm) (bm : Bmp) (tg : Tga) (px : Pcx) (fa : A) (hb : aH) (n : Nat) (hso : isW so)  : Q_X9_readColour_96 m0 sh rr ww so pl qo pn bm tg px fa hb n (F_X9_readColour_96 (y_b (ww so)) tg) := by
  intro v3 v4 v5 t0 sc res hE hF
  unfold F_X9_readColour_96 at hE
  refine aw_istore (lv2 := [(6, _), (0, _), (3, _), (4, _), (5, _)]) dX9_readColour_96 (by decide) rfl ?_
  refine aw_iload dX9_readColour_98 rfl ?_
  refine aw_iload dX9_readColour_100 rfl ?_
  refine aw_iload_n dX9_readColour_102 rfl ?_
  refine aw_aload_n dX9_readColour_103 rfl ?_
  refine aw_getf (v := .int (tg_ab tg)) dX9_readColour_104 flX9_111_8 at_tga rfl ?_
  refine aw_bipush (v := 8) dX9_readColour_107 (by decide) ?_
  refine aw_icmp_ne (tgt := 117) dX9_readColour_109 (by decide) (fun c109 => ?_) (fun c109 => ?_)
  · replace hE := fif hE c109
    refine aw_sipush (v := 255) dX9_readColour_117 (by decide) ?_
    exact aw_lv _ (fun _ h => absurd h List.not_mem_nil) (b_X9_readColour_120 m0 sh rr ww so pl qo pn bm tg px fa hb n hso  (255 : Int32) v3 v4 v5 sc _ hE hF)
  · replace hE := fit hE c109
    refine aw_iload dX9_readColour_112 rfl ?_
    refine aw_goto (tgt := 120) dX9_readColour_114 (by decide) ?_
    exact aw_lv _ (fun _ h => absurd h List.not_mem_nil) (b_X9_readColour_120 m0 sh rr ww so pl qo pn bm tg px fa hb n hso  t0 v3 v4 v5 sc _ hE hF)
def F_X9_readColour_70 (sb : A) (tg : Tga)  (t0 : Int32) (t1 : Int32) (sc : Src) : Out Src Int32 := fok ((F_X10_ofSixteenBits t1 t0) : Int32) sc
set_option maxHeartbeats 1000000 in
set_option maxRecDepth 100000 in
theorem b_X9_readColour_70 (m0 : Mnt) (sh : Nat → Nat) (rr : Nat → Ras) (ww : Nat → Row) (so : Nat) (pl : Pal) (qo : Qoi) (pn : Pnm) (bm : Bmp) (tg : Tga) (px : Pcx) (fa : A) (hb : aH) (n : Nat) (hso : isW so)  : Q_X9_readColour_70 m0 sh rr ww so pl qo pn bm tg px fa hb n (F_X9_readColour_70 (y_b (ww so)) tg) := by
  intro t0 t1 sc res hE hF
  unfold F_X9_readColour_70 at hE
  refine aw_callSN dX9_readColour_70  csX9_152 rfl (kF_X10_ofSixteenBits _ _ t1 t0) rfl (Nat.le_of_ble_eq_true rfl) (by decide) (by decide) (by decide) (by decide)  (fun r70 h70 n70 hp70 => ?_)
  obtain ⟨rfl, rfl, rfl⟩ := hp70
  exact aw_iret dX9_readColour_73 rfl (Nat.zero_le _) (Nat.zero_le _) (Nat.zero_le _) (Nat.zero_le _) ⟨_, _, hE.symm, rfl, rfl, rfl⟩
def F_X9_readColour_49 (sb : A) (tg : Tga)  (v3 : Int32) (v4 : Int32) (t0 : Int32) (sc : Src) : Out Src Int32 := if t0 = 0 then (F_X9_readColour_70 sb tg (255 : Int32) ((v4 <<< ((8 : Int32) &&& 31)) ||| v3) sc) else (F_X9_readColour_70 sb tg (0 : Int32) ((v4 <<< ((8 : Int32) &&& 31)) ||| v3) sc)
set_option maxHeartbeats 1000000 in
set_option maxRecDepth 100000 in
theorem b_X9_readColour_49 (m0 : Mnt) (sh : Nat → Nat) (rr : Nat → Ras) (ww : Nat → Row) (so : Nat) (pl : Pal) (qo : Qoi) (pn : Pnm) (bm : Bmp) (tg : Tga) (px : Pcx) (fa : A) (hb : aH) (n : Nat) (hso : isW so)  : Q_X9_readColour_49 m0 sh rr ww so pl qo pn bm tg px fa hb n (F_X9_readColour_49 (y_b (ww so)) tg) := by
  intro v3 v4 t0 sc res hE hF
  unfold F_X9_readColour_49 at hE
  refine aw_istore (lv2 := [(5, _), (3, _), (4, _)]) dX9_readColour_49 (by decide) rfl ?_
  refine aw_iload dX9_readColour_51 rfl ?_
  refine aw_bipush (v := 8) dX9_readColour_53 (by decide) ?_
  refine aw_ishl dX9_readColour_55 ?_
  refine aw_iload_n dX9_readColour_56 rfl ?_
  refine aw_ior dX9_readColour_57 ?_
  refine aw_iload dX9_readColour_58 rfl ?_
  refine aw_if_eq (tgt := 67) dX9_readColour_60 (by decide) (fun c60 => ?_) (fun c60 => ?_)
  · replace hE := fit hE c60
    refine aw_sipush (v := 255) dX9_readColour_67 (by decide) ?_
    exact aw_lv _ (fun _ h => absurd h List.not_mem_nil) (b_X9_readColour_70 m0 sh rr ww so pl qo pn bm tg px fa hb n hso  (255 : Int32) ((v4 <<< ((8 : Int32) &&& 31)) ||| v3) sc _ hE hF)
  · replace hE := fif hE c60
    refine aw_iconst (v := 0) dX9_readColour_63 (by decide) ?_
    refine aw_goto (tgt := 70) dX9_readColour_64 (by decide) ?_
    exact aw_lv _ (fun _ h => absurd h List.not_mem_nil) (b_X9_readColour_70 m0 sh rr ww so pl qo pn bm tg px fa hb n hso  (0 : Int32) ((v4 <<< ((8 : Int32) &&& 31)) ||| v3) sc _ hE hF)
def F_X9_readColour_48 (sb : A) (tg : Tga)  (v3 : Int32) (v4 : Int32) (sc : Src) : Out Src Int32 := F_X9_readColour_49 sb tg v3 v4 (0 : Int32) sc
set_option maxHeartbeats 1000000 in
set_option maxRecDepth 100000 in
theorem b_X9_readColour_48 (m0 : Mnt) (sh : Nat → Nat) (rr : Nat → Ras) (ww : Nat → Row) (so : Nat) (pl : Pal) (qo : Qoi) (pn : Pnm) (bm : Bmp) (tg : Tga) (px : Pcx) (fa : A) (hb : aH) (n : Nat) (hso : isW so)  : Q_X9_readColour_48 m0 sh rr ww so pl qo pn bm tg px fa hb n (F_X9_readColour_48 (y_b (ww so)) tg) := by
  intro v3 v4 sc res hE hF
  unfold F_X9_readColour_48 at hE
  refine aw_iconst (v := 0) dX9_readColour_48 (by decide) ?_
  exact aw_lv _ (List.forall_mem_cons.mpr ⟨rfl, (List.forall_mem_cons.mpr ⟨rfl, fun _ h => absurd h List.not_mem_nil⟩)⟩) (b_X9_readColour_49 m0 sh rr ww so pl qo pn bm tg px fa hb n hso  v3 v4 (0 : Int32) sc _ hE hF)
def F_X9_readColour (a2 : Int32) (sc : Src) (sb : A) (tg : Tga) : Out Src Int32 := fon (F_X8_next sc sb) (fun z1 s1 => if a2 = 8 then (fok ((F_X10_grayOf z1) : Int32) s1) else (fon (F_X8_next s1 sb) (fun z17 s17 => if 16 < a2 then (fon (F_X8_next s17 sb) (fun z75 s75 => if a2 = 32 then (fon (F_X8_next s75 sb) (fun z87 s87 => F_X9_readColour_96 sb tg z1 z17 z75 z87 s87) (fun E s87 => fex E s87)) else (F_X9_readColour_96 sb tg z1 z17 z75 (255 : Int32) s75)) (fun E s75 => fex E s75)) else (if (tg_ab tg) = 1 then (if 128 ≤ z17 then (F_X9_readColour_48 sb tg z1 z17 s17) else (F_X9_readColour_49 sb tg z1 z17 (1 : Int32) s17)) else (F_X9_readColour_48 sb tg z1 z17 s17))) (fun E s17 => fex E s17))) (fun E s1 => fex E s1)
set_option maxHeartbeats 1000000 in
set_option maxRecDepth 100000 in
theorem kF_X9_readColour (m0 : Mnt) (sh : Nat → Nat) (rr : Nat → Ras) (ww : Nat → Row) (so : Nat) (sc : Src) (pl : Pal) (qo : Qoi) (pn : Pnm) (bm : Bmp) (tg : Tga) (px : Pcx) (fa : A) (hb : aH) (n : Nat) (hso : isW so) (a2 : Int32) (hF : F_X9_readColour a2 sc (y_b (ww so)) tg ≠ fno) : AM mX9_readColour 4 [.ref 26, .ref 16, .int a2] (HC m0 sh rr ww so sc pl qo pn bm tg px fa hb) n 1 6 0 0 (P_X9_readColour m0 sh rr ww so pl qo pn bm tg px fa hb n (F_X9_readColour a2 sc (y_b (ww so)) tg)) (X_X9_readColour m0 sh rr ww so pl qo pn bm tg px fa hb n (F_X9_readColour a2 sc (y_b (ww so)) tg)) := by
  generalize hE : F_X9_readColour a2 sc (y_b (ww so)) tg = res at hF ⊢
  refine aw_of (by decide +kernel) rfl (Nat.le_of_ble_eq_true rfl) ?_
  unfold F_X9_readColour at hE
  refine aw_aload_n dX9_readColour_0 rfl ?_
  refine aw_callV dX9_readColour_1 at_src cvX9_19 rfl (kF_X8_next m0 sh rr ww so sc pl qo pn bm tg px fa hb _ hso  (fon_ne hE hF)) rfl (Nat.le_of_ble_eq_true rfl) (by decide) (by decide) (by decide) (by decide) (fun E h2 n2 hx => aw_out rfl (by decide) (by decide) (by obtain ⟨s1, e1, rfl, rfl⟩ := hx; exact ⟨_, (fon_ex e1 hE).symm, rfl, rfl⟩)) (fun r1 h1 n1 hp1 => ?_)
  obtain ⟨z1, s1, e1, rfl, rfl, rfl⟩ := hp1
  replace hE := fon_ok e1 hE
  refine aw_istore_n (lv2 := [(3, _), (0, _), (1, _), (2, _)]) dX9_readColour_4 (by decide) rfl ?_
  refine aw_iload_n dX9_readColour_5 rfl ?_
  refine aw_bipush (v := 8) dX9_readColour_6 (by decide) ?_
  refine aw_icmp_ne (tgt := 16) dX9_readColour_8 (by decide) (fun c8 => ?_) (fun c8 => ?_)
  · replace hE := fif hE c8
    refine aw_aload_n dX9_readColour_16 rfl ?_
    refine aw_callV dX9_readColour_17 at_src cvX9_19 rfl (kF_X8_next m0 sh rr ww so s1 pl qo pn bm tg px fa hb _ hso  (fon_ne hE hF)) rfl (Nat.le_of_ble_eq_true rfl) (by decide) (by decide) (by decide) (by decide) (fun E h2 n2 hx => aw_out rfl (by decide) (by decide) (by obtain ⟨s17, e17, rfl, rfl⟩ := hx; exact ⟨_, (fon_ex e17 hE).symm, rfl, rfl⟩)) (fun r17 h17 n17 hp17 => ?_)
    obtain ⟨z17, s17, e17, rfl, rfl, rfl⟩ := hp17
    replace hE := fon_ok e17 hE
    refine aw_istore (lv2 := [(4, _), (3, _), (0, _), (1, _), (2, _)]) dX9_readColour_20 (by decide) rfl ?_
    refine aw_iload_n dX9_readColour_22 rfl ?_
    refine aw_bipush (v := 16) dX9_readColour_23 (by decide) ?_
    refine aw_icmp_gt (tgt := 74) dX9_readColour_25 (by decide) (fun c25 => ?_) (fun c25 => ?_)
    · replace hE := fit hE c25
      refine aw_aload_n dX9_readColour_74 rfl ?_
      refine aw_callV dX9_readColour_75 at_src cvX9_19 rfl (kF_X8_next m0 sh rr ww so s17 pl qo pn bm tg px fa hb _ hso  (fon_ne hE hF)) rfl (Nat.le_of_ble_eq_true rfl) (by decide) (by decide) (by decide) (by decide) (fun E h2 n2 hx => aw_out rfl (by decide) (by decide) (by obtain ⟨s75, e75, rfl, rfl⟩ := hx; exact ⟨_, (fon_ex e75 hE).symm, rfl, rfl⟩)) (fun r75 h75 n75 hp75 => ?_)
      obtain ⟨z75, s75, e75, rfl, rfl, rfl⟩ := hp75
      replace hE := fon_ok e75 hE
      refine aw_istore (lv2 := [(5, _), (4, _), (3, _), (0, _), (1, _), (2, _)]) dX9_readColour_78 (by decide) rfl ?_
      refine aw_iload_n dX9_readColour_80 rfl ?_
      refine aw_bipush (v := 32) dX9_readColour_81 (by decide) ?_
      refine aw_icmp_ne (tgt := 93) dX9_readColour_83 (by decide) (fun c83 => ?_) (fun c83 => ?_)
      · replace hE := fif hE c83
        refine aw_sipush (v := 255) dX9_readColour_93 (by decide) ?_
        exact aw_lv _ (List.forall_mem_cons.mpr ⟨rfl, (List.forall_mem_cons.mpr ⟨rfl, (List.forall_mem_cons.mpr ⟨rfl, (List.forall_mem_cons.mpr ⟨rfl, fun _ h => absurd h List.not_mem_nil⟩)⟩)⟩)⟩) (b_X9_readColour_96 m0 sh rr ww so pl qo pn bm tg px fa hb n hso  z1 z17 z75 (255 : Int32) s75 _ hE hF)
      · replace hE := fit hE c83
        refine aw_aload_n dX9_readColour_86 rfl ?_
        refine aw_callV dX9_readColour_87 at_src cvX9_19 rfl (kF_X8_next m0 sh rr ww so s75 pl qo pn bm tg px fa hb _ hso  (fon_ne hE hF)) rfl (Nat.le_of_ble_eq_true rfl) (by decide) (by decide) (by decide) (by decide) (fun E h2 n2 hx => aw_out rfl (by decide) (by decide) (by obtain ⟨s87, e87, rfl, rfl⟩ := hx; exact ⟨_, (fon_ex e87 hE).symm, rfl, rfl⟩)) (fun r87 h87 n87 hp87 => ?_)
        obtain ⟨z87, s87, e87, rfl, rfl, rfl⟩ := hp87
        replace hE := fon_ok e87 hE
        refine aw_goto (tgt := 96) dX9_readColour_90 (by decide) ?_
        exact aw_lv _ (List.forall_mem_cons.mpr ⟨rfl, (List.forall_mem_cons.mpr ⟨rfl, (List.forall_mem_cons.mpr ⟨rfl, (List.forall_mem_cons.mpr ⟨rfl, fun _ h => absurd h List.not_mem_nil⟩)⟩)⟩)⟩) (b_X9_readColour_96 m0 sh rr ww so pl qo pn bm tg px fa hb n hso  z1 z17 z75 z87 s87 _ hE hF)
    · replace hE := fif hE c25
      refine aw_aload_n dX9_readColour_28 rfl ?_
      refine aw_getf (v := .int (tg_ab tg)) dX9_readColour_29 flX9_111_8 at_tga rfl ?_
      refine aw_iconst (v := 1) dX9_readColour_32 (by decide) ?_
      refine aw_icmp_ne (tgt := 48) dX9_readColour_33 (by decide) (fun c33 => ?_) (fun c33 => ?_)
      · replace hE := fif hE c33
        exact aw_lv _ (List.forall_mem_cons.mpr ⟨rfl, (List.forall_mem_cons.mpr ⟨rfl, fun _ h => absurd h List.not_mem_nil⟩)⟩) (b_X9_readColour_48 m0 sh rr ww so pl qo pn bm tg px fa hb n hso  z1 z17 s17 _ hE hF)
      · replace hE := fit hE c33
        refine aw_iload dX9_readColour_36 rfl ?_
        refine aw_sipush (v := 128) dX9_readColour_38 (by decide) ?_
        refine aw_icmp_ge (tgt := 48) dX9_readColour_41 (by decide) (fun c41 => ?_) (fun c41 => ?_)
        · replace hE := fit hE c41
          exact aw_lv _ (List.forall_mem_cons.mpr ⟨rfl, (List.forall_mem_cons.mpr ⟨rfl, fun _ h => absurd h List.not_mem_nil⟩)⟩) (b_X9_readColour_48 m0 sh rr ww so pl qo pn bm tg px fa hb n hso  z1 z17 s17 _ hE hF)
        · replace hE := fif hE c41
          refine aw_iconst (v := 1) dX9_readColour_44 (by decide) ?_
          refine aw_goto (tgt := 49) dX9_readColour_45 (by decide) ?_
          exact aw_lv _ (List.forall_mem_cons.mpr ⟨rfl, (List.forall_mem_cons.mpr ⟨rfl, fun _ h => absurd h List.not_mem_nil⟩)⟩) (b_X9_readColour_49 m0 sh rr ww so pl qo pn bm tg px fa hb n hso  z1 z17 (1 : Int32) s17 _ hE hF)
  · replace hE := fit hE c8
    refine aw_iload_n dX9_readColour_11 rfl ?_
    refine aw_callSN dX9_readColour_12  csX9_148 rfl (kF_X10_grayOf _ _ z1) rfl (Nat.le_of_ble_eq_true rfl) (by decide) (by decide) (by decide) (by decide)  (fun r12 h12 n12 hp12 => ?_)
    obtain ⟨rfl, rfl, rfl⟩ := hp12
    exact aw_iret dX9_readColour_15 rfl (Nat.zero_le _) (Nat.zero_le _) (Nat.zero_le _) (Nat.zero_le _) ⟨_, _, hE.symm, rfl, rfl, rfl⟩
def P_X9_readPixel (m0 : Mnt) (sh : Nat → Nat) (rr : Nat → Ras) (ww : Nat → Row) (so : Nat) (pl : Pal) (qo : Qoi) (pn : Pnm) (bm : Bmp) (tg : Tga) (px : Pcx) (fa : A) (hb : aH) (n : Nat) (res : Out Src Int32) : Option Value → aH → Nat → Prop := fun r1 h2 n2 => ∃ (a : Int32) (s : Src), res = fok a s ∧ r1 = some (.int a) ∧ h2 = HC m0 sh rr ww so s pl qo pn bm tg px fa hb ∧ n = n2
def X_X9_readPixel (m0 : Mnt) (sh : Nat → Nat) (rr : Nat → Ras) (ww : Nat → Row) (so : Nat) (pl : Pal) (qo : Qoi) (pn : Pnm) (bm : Bmp) (tg : Tga) (px : Pcx) (fa : A) (hb : aH) (n : Nat) (res : Out Src Int32) : String → aH → Nat → Prop := fun E h2 n2 => ∃ s : Src, res = fex E s ∧ h2 = HC m0 sh rr ww so s pl qo pn bm tg px fa hb ∧ n = n2
abbrev Q_X9_readPixel_48 (m0 : Mnt) (sh : Nat → Nat) (rr : Nat → Ras) (ww : Nat → Row) (so : Nat) (pl : Pal) (qo : Qoi) (pn : Pnm) (bm : Bmp) (tg : Tga) (px : Pcx) (fa : A) (hb : aH) (n : Nat) (k : Int32 → Src → Out Src Int32) : Prop := ∀ (v2 : Int32) (sc : Src) (res : Out Src Int32), k v2 sc = res → res ≠ fno → AW (fun _ _ => True) mX9_readPixel (rmD 5 1 6) 0 0 (P_X9_readPixel m0 sh rr ww so pl qo pn bm tg px fa hb n res) (X_X9_readPixel m0 sh rr ww so pl qo pn bm tg px fa hb n res) 0 0 48 [(1, .ref 16), (2, .int v2)] [] (HC m0 sh rr ww so sc pl qo pn bm tg px fa hb) n
def F_X9_readPixel_48 (sb : A) (tg : Tga)  (v2 : Int32) (sc : Src) : Out Src Int32 := fon (F_X8_refuse 6 v2 sc) (fun _ _ => fno) (fun E s52 => fex E s52)
set_option maxHeartbeats 1000000 in
set_option maxRecDepth 100000 in
theorem b_X9_readPixel_48 (m0 : Mnt) (sh : Nat → Nat) (rr : Nat → Ras) (ww : Nat → Row) (so : Nat) (pl : Pal) (qo : Qoi) (pn : Pnm) (bm : Bmp) (tg : Tga) (px : Pcx) (fa : A) (hb : aH) (n : Nat) (hso : isW so)  : Q_X9_readPixel_48 m0 sh rr ww so pl qo pn bm tg px fa hb n (F_X9_readPixel_48 (y_b (ww so)) tg) := by
  intro v2 sc res hE hF
  unfold F_X9_readPixel_48 at hE
  refine aw_aload_n dX9_readPixel_48 rfl ?_
  refine aw_bipush (v := 6) dX9_readPixel_49 (by decide) ?_
  refine aw_iload_n dX9_readPixel_51 rfl ?_
  refine aw_callV dX9_readPixel_52 at_src cvX9_80 rfl (kF_X8_refuse m0 sh rr ww so sc pl qo pn bm tg px fa hb _  6 v2 (fon_ne hE hF)) rfl (Nat.le_of_ble_eq_true rfl) (by decide) (by decide) (by decide) (by decide) (fun E h2 n2 hx => aw_out rfl (by decide) (by decide) (by obtain ⟨s52, e52, rfl, rfl⟩ := hx; exact ⟨_, (fon_ex e52 hE).symm, rfl, rfl⟩)) (fun r52 h52 n52 hp52 => ?_)
  obtain ⟨z52, s52, e52, rfl, rfl, rfl⟩ := hp52
  exact (hF (fon_ok e52 hE).symm).elim
def F_X9_readPixel (sc : Src) (sb : A) (tg : Tga) : Out Src Int32 := if (tg_idx tg) = 0 then (fon (F_X9_readColour (tg_bits tg) sc sb tg) (fun z13 s13 => fok (z13 : Int32) s13) (fun E s13 => fex E s13)) else (fon (F_X8_next sc sb) (fun z23 s23 => if z23 < (tg_fe tg) then (F_X9_readPixel_48 sb tg (sc_pos sc) s23) else (if (z23 - (tg_fe tg)) < (tg_many tg) then (if inb (z23 &&& 255) 256 then (fok (((tg_ent tg) (Int32.toNatClampNeg (z23 &&& 255))) : Int32) s23) else fno) else (F_X9_readPixel_48 sb tg (sc_pos sc) s23))) (fun E s23 => fex E s23))
set_option maxHeartbeats 1000000 in
set_option maxRecDepth 100000 in
theorem kF_X9_readPixel (m0 : Mnt) (sh : Nat → Nat) (rr : Nat → Ras) (ww : Nat → Row) (so : Nat) (sc : Src) (pl : Pal) (qo : Qoi) (pn : Pnm) (bm : Bmp) (tg : Tga) (px : Pcx) (fa : A) (hb : aH) (n : Nat) (hso : isW so)  (hF : F_X9_readPixel sc (y_b (ww so)) tg ≠ fno) : AM mX9_readPixel 5 [.ref 26, .ref 16] (HC m0 sh rr ww so sc pl qo pn bm tg px fa hb) n 1 6 0 0 (P_X9_readPixel m0 sh rr ww so pl qo pn bm tg px fa hb n (F_X9_readPixel sc (y_b (ww so)) tg)) (X_X9_readPixel m0 sh rr ww so pl qo pn bm tg px fa hb n (F_X9_readPixel sc (y_b (ww so)) tg)) := by
  generalize hE : F_X9_readPixel sc (y_b (ww so)) tg = res at hF ⊢
  refine aw_of (by decide +kernel) rfl (Nat.le_of_ble_eq_true rfl) ?_
  unfold F_X9_readPixel at hE
  refine aw_aload_n dX9_readPixel_0 rfl ?_
  refine aw_getf (v := .int (tg_idx tg)) dX9_readPixel_1 flX9_84_8 at_tga rfl ?_
  refine aw_if_ne (tgt := 17) dX9_readPixel_4 (by decide) (fun c4 => ?_) (fun c4 => ?_)
  · replace hE := fif hE c4
    refine aw_aload_n dX9_readPixel_17 rfl ?_
    refine aw_getf (v := .int (sc_pos sc)) dX9_readPixel_18 flX9_74_7 at_src rfl ?_
    refine aw_istore_n (lv2 := [(2, _), (0, _), (1, _)]) dX9_readPixel_21 (by decide) rfl ?_
    refine aw_aload_n dX9_readPixel_22 rfl ?_
    refine aw_callV dX9_readPixel_23 at_src cvX9_19 rfl (kF_X8_next m0 sh rr ww so sc pl qo pn bm tg px fa hb _ hso  (fon_ne hE hF)) rfl (Nat.le_of_ble_eq_true rfl) (by decide) (by decide) (by decide) (by decide) (fun E h2 n2 hx => aw_out rfl (by decide) (by decide) (by obtain ⟨s23, e23, rfl, rfl⟩ := hx; exact ⟨_, (fon_ex e23 hE).symm, rfl, rfl⟩)) (fun r23 h23 n23 hp23 => ?_)
    obtain ⟨z23, s23, e23, rfl, rfl, rfl⟩ := hp23
    replace hE := fon_ok e23 hE
    refine aw_istore_n (lv2 := [(3, _), (2, _), (0, _), (1, _)]) dX9_readPixel_26 (by decide) rfl ?_
    refine aw_iload_n dX9_readPixel_27 rfl ?_
    refine aw_aload_n dX9_readPixel_28 rfl ?_
    refine aw_getf (v := .int (tg_fe tg)) dX9_readPixel_29 flX9_91_8 at_tga rfl ?_
    refine aw_icmp_lt (tgt := 48) dX9_readPixel_32 (by decide) (fun c32 => ?_) (fun c32 => ?_)
    · replace hE := fit hE c32
      exact aw_lv _ (List.forall_mem_cons.mpr ⟨rfl, (List.forall_mem_cons.mpr ⟨rfl, fun _ h => absurd h List.not_mem_nil⟩)⟩) (b_X9_readPixel_48 m0 sh rr ww so pl qo pn bm tg px fa hb n hso  (sc_pos sc) s23 _ hE hF)
    · replace hE := fif hE c32
      refine aw_iload_n dX9_readPixel_35 rfl ?_
      refine aw_aload_n dX9_readPixel_36 rfl ?_
      refine aw_getf (v := .int (tg_fe tg)) dX9_readPixel_37 flX9_91_8 at_tga rfl ?_
      refine aw_isub dX9_readPixel_40 ?_
      refine aw_aload_n dX9_readPixel_41 rfl ?_
      refine aw_getf (v := .int (tg_many tg)) dX9_readPixel_42 flX9_94_8 at_tga rfl ?_
      refine aw_icmp_lt (tgt := 55) dX9_readPixel_45 (by decide) (fun c45 => ?_) (fun c45 => ?_)
      · replace hE := fit hE c45
        refine aw_aload_n dX9_readPixel_55 rfl ?_
        refine aw_getf (v := .ref 27) dX9_readPixel_56 flX9_9_8 at_tga rfl ?_
        refine aw_iload_n dX9_readPixel_59 rfl ?_
        refine aw_sipush (v := 255) dX9_readPixel_60 (by decide) ?_
        refine aw_iand dX9_readPixel_63 ?_
        obtain ⟨g64, hE⟩ := fgd hE hF
        refine aw_iald (f := (tg_ent tg)) dX9_readPixel_64 at_tgaent (vp_in_iff.mpr g64) ?_
        exact aw_iret dX9_readPixel_65 rfl (Nat.zero_le _) (Nat.zero_le _) (Nat.zero_le _) (Nat.zero_le _) ⟨_, _, hE.symm, rfl, rfl, rfl⟩
      · replace hE := fif hE c45
        exact aw_lv _ (List.forall_mem_cons.mpr ⟨rfl, (List.forall_mem_cons.mpr ⟨rfl, fun _ h => absurd h List.not_mem_nil⟩)⟩) (b_X9_readPixel_48 m0 sh rr ww so pl qo pn bm tg px fa hb n hso  (sc_pos sc) s23 _ hE hF)
  · replace hE := fit hE c4
    refine aw_aload_n dX9_readPixel_7 rfl ?_
    refine aw_aload_n dX9_readPixel_8 rfl ?_
    refine aw_aload_n dX9_readPixel_9 rfl ?_
    refine aw_getf (v := .int (tg_bits tg)) dX9_readPixel_10 flX9_62_8 at_tga rfl ?_
    refine aw_callV dX9_readPixel_13 at_tga cvX9_114 rfl (kF_X9_readColour m0 sh rr ww so sc pl qo pn bm tg px fa hb _ hso (tg_bits tg) (fon_ne hE hF)) rfl (Nat.le_of_ble_eq_true rfl) (by decide) (by decide) (by decide) (by decide) (fun E h2 n2 hx => aw_out rfl (by decide) (by decide) (by obtain ⟨s13, e13, rfl, rfl⟩ := hx; exact ⟨_, (fon_ex e13 hE).symm, rfl, rfl⟩)) (fun r13 h13 n13 hp13 => ?_)
    obtain ⟨z13, s13, e13, rfl, rfl, rfl⟩ := hp13
    replace hE := fon_ok e13 hE
    exact aw_iret dX9_readPixel_16 rfl (Nat.zero_le _) (Nat.zero_le _) (Nat.zero_le _) (Nat.zero_le _) ⟨_, _, hE.symm, rfl, rfl, rfl⟩
def P_X11_feed (mw : MW) (mr : MR) (ms : Nat) (mu : A) (dd : A) (wi : A) (hi : A) (gt : A) (sp : A) (ta : A) (li : A) (sr : A) (co : A) (hb : aH) (n : Nat) (res : Out (MO × A) Int32) : Option Value → aH → Nat → Prop := fun r1 h2 n2 => ∃ (a : Int32) (s : (MO × A)), res = fok a s ∧ r1 = some (.int a) ∧ h2 = HM s.1 mw mr ms s.2 mu dd wi hi gt sp ta li sr co hb ∧ n = n2
def F_X11_feed (a1 : Int32) (a2 : Int32) (a3 : Int32) (a4 : Int32) (a5 : Int32) (mo : MO) (mt : A) : Out (MO × A) Int32 := if ((mo_taped mo) + 20) ≤ 65536 then (fon (F_X11_four a1 ((mo_taped mo), 0, (mo_tf mo), (mo_t1 mo), (mo_t2 mo), (mo_t3 mo), (mo_fp mo)) mt) (fun z21 s21 => fon (F_X11_four a2 s21.1 s21.2) (fun z26 s26 => fon (F_X11_four a3 s26.1 s26.2) (fun z31 s31 => fon (F_X11_four a4 s31.1 s31.2) (fun z37 s37 => fon (F_X11_four a5 s37.1 s37.2) (fun z43 s43 => fok ((mo_taped s43.1) : Int32) (s43.1, s43.2)) (fun _ _ => fno)) (fun _ _ => fno)) (fun _ _ => fno)) (fun _ _ => fno)) (fun _ _ => fno)) else (fok ((-1) : Int32) (((mo_taped mo), 0, (mo_tf mo), (mo_t1 mo), (mo_t2 mo), (mo_t3 mo), (mo_fp mo)), mt))
set_option maxHeartbeats 1000000 in
set_option maxRecDepth 100000 in
theorem kF_X11_feed (mo : MO) (mw : MW) (mr : MR) (ms : Nat) (mt : A) (mu : A) (dd : A) (wi : A) (hi : A) (gt : A) (sp : A) (ta : A) (li : A) (sr : A) (co : A) (hb : aH) (n : Nat)  (a1 : Int32) (a2 : Int32) (a3 : Int32) (a4 : Int32) (a5 : Int32) (hF : F_X11_feed a1 a2 a3 a4 a5 mo mt ≠ fno) : AM mX11_feed 2 [.ref 31, .int a1, .int a2, .int a3, .int a4, .int a5] (HM mo mw mr ms mt mu dd wi hi gt sp ta li sr co hb) n 0 0 0 0 (P_X11_feed mw mr ms mu dd wi hi gt sp ta li sr co hb n (F_X11_feed a1 a2 a3 a4 a5 mo mt)) (fun _ _ _ => False) := by
  generalize hE : F_X11_feed a1 a2 a3 a4 a5 mo mt = res at hF ⊢
  refine aw_of (by decide +kernel) rfl (Nat.le_of_ble_eq_true rfl) ?_
  unfold F_X11_feed at hE
  refine aw_aload_n dX11_feed_0 rfl ?_
  refine aw_iconst (v := 0) dX11_feed_1 (by decide) ?_
  refine aw_putf dX11_feed_2 ptX11_61_10 at_mod (Nat.le_of_ble_eq_true rfl) ⟨rfl, rfl⟩ ?_
  refine aw_eqh (h2 := HM ((mo_taped mo), 0, (mo_tf mo), (mo_t1 mo), (mo_t2 mo), (mo_t3 mo), (mo_fp mo)) mw mr ms mt mu dd wi hi gt sp ta li sr co hb) up_mod ?_
  refine aw_aload_n dX11_feed_5 rfl ?_
  refine aw_getf (v := .int (mo_taped mo)) dX11_feed_6 flX11_64_10 at_mod rfl ?_
  refine aw_bipush (v := 20) dX11_feed_9 (by decide) ?_
  refine aw_iadd dX11_feed_11 ?_
  refine aw_ldc dX11_feed_12 kcX11_9 ?_
  refine aw_icmp_le (tgt := 19) dX11_feed_14 (by decide) (fun c14 => ?_) (fun c14 => ?_)
  · replace hE := fit hE c14
    refine aw_aload_n dX11_feed_19 rfl ?_
    refine aw_iload_n dX11_feed_20 rfl ?_
    refine aw_callV dX11_feed_21 at_mod cvX11_67 rfl (kF_X11_four ((mo_taped mo), 0, (mo_tf mo), (mo_t1 mo), (mo_t2 mo), (mo_t3 mo), (mo_fp mo)) mw mr ms mt mu dd wi hi gt sp ta li sr co hb _  a1 (fon_ne hE hF)) rfl (Nat.le_of_ble_eq_true rfl) (by decide) (by decide) (by decide) (by decide) (fun _ _ _ hf => False.elim hf) (fun r21 h21 n21 hp21 => ?_)
    obtain ⟨z21, s21, e21, rfl, rfl, rfl⟩ := hp21
    replace hE := fon_ok e21 hE
    refine aw_aload_n dX11_feed_24 rfl ?_
    refine aw_iload_n dX11_feed_25 rfl ?_
    refine aw_callV dX11_feed_26 at_mod cvX11_67 rfl (kF_X11_four s21.1 mw mr ms s21.2 mu dd wi hi gt sp ta li sr co hb _  a2 (fon_ne hE hF)) rfl (Nat.le_of_ble_eq_true rfl) (by decide) (by decide) (by decide) (by decide) (fun _ _ _ hf => False.elim hf) (fun r26 h26 n26 hp26 => ?_)
    obtain ⟨z26, s26, e26, rfl, rfl, rfl⟩ := hp26
    replace hE := fon_ok e26 hE
    refine aw_aload_n dX11_feed_29 rfl ?_
    refine aw_iload_n dX11_feed_30 rfl ?_
    refine aw_callV dX11_feed_31 at_mod cvX11_67 rfl (kF_X11_four s26.1 mw mr ms s26.2 mu dd wi hi gt sp ta li sr co hb _  a3 (fon_ne hE hF)) rfl (Nat.le_of_ble_eq_true rfl) (by decide) (by decide) (by decide) (by decide) (fun _ _ _ hf => False.elim hf) (fun r31 h31 n31 hp31 => ?_)
    obtain ⟨z31, s31, e31, rfl, rfl, rfl⟩ := hp31
    replace hE := fon_ok e31 hE
    refine aw_aload_n dX11_feed_34 rfl ?_
    refine aw_iload dX11_feed_35 rfl ?_
    refine aw_callV dX11_feed_37 at_mod cvX11_67 rfl (kF_X11_four s31.1 mw mr ms s31.2 mu dd wi hi gt sp ta li sr co hb _  a4 (fon_ne hE hF)) rfl (Nat.le_of_ble_eq_true rfl) (by decide) (by decide) (by decide) (by decide) (fun _ _ _ hf => False.elim hf) (fun r37 h37 n37 hp37 => ?_)
    obtain ⟨z37, s37, e37, rfl, rfl, rfl⟩ := hp37
    replace hE := fon_ok e37 hE
    refine aw_aload_n dX11_feed_40 rfl ?_
    refine aw_iload dX11_feed_41 rfl ?_
    refine aw_callV dX11_feed_43 at_mod cvX11_67 rfl (kF_X11_four s37.1 mw mr ms s37.2 mu dd wi hi gt sp ta li sr co hb _  a5 (fon_ne hE hF)) rfl (Nat.le_of_ble_eq_true rfl) (by decide) (by decide) (by decide) (by decide) (fun _ _ _ hf => False.elim hf) (fun r43 h43 n43 hp43 => ?_)
    obtain ⟨z43, s43, e43, rfl, rfl, rfl⟩ := hp43
    replace hE := fon_ok e43 hE
    refine aw_aload_n dX11_feed_46 rfl ?_
    refine aw_getf (v := .int (mo_taped s43.1)) dX11_feed_47 flX11_64_10 at_mod rfl ?_
    exact aw_iret dX11_feed_50 rfl (Nat.zero_le _) (Nat.zero_le _) (Nat.zero_le _) (Nat.zero_le _) ⟨_, _, hE.symm, rfl, rfl, rfl⟩
  · replace hE := fif hE c14
    refine aw_iconst (v := (-1)) dX11_feed_17 (by decide) ?_
    exact aw_iret dX11_feed_18 rfl (Nat.zero_le _) (Nat.zero_le _) (Nat.zero_le _) (Nat.zero_le _) ⟨_, _, hE.symm, rfl, rfl, rfl⟩
def P_X11_want (mo : MO) (mw : MW) (ms : Nat) (mt : A) (mu : A) (dd : A) (wi : A) (hi : A) (gt : A) (sp : A) (ta : A) (li : A) (sr : A) (co : A) (hb : aH) (n : Nat) (res : Out MR Int32) : Option Value → aH → Nat → Prop := fun r1 h2 n2 => ∃ (a : Int32) (s : MR), res = fok a s ∧ r1 = some (.int a) ∧ h2 = HM mo mw s ms mt mu dd wi hi gt sp ta li sr co hb ∧ n = n2
abbrev Q_X11_want_25 (mo : MO) (mw : MW) (ms : Nat) (mt : A) (mu : A) (dd : A) (wi : A) (hi : A) (gt : A) (sp : A) (ta : A) (li : A) (sr : A) (co : A) (hb : aH) (n : Nat) (k : MR → Out MR Int32) : Prop := ∀ (mr : MR) (res : Out MR Int32), k mr = res → res ≠ fno → AW (fun _ _ => True) mX11_want (rmD 2 0 0) 0 0 (P_X11_want mo mw ms mt mu dd wi hi gt sp ta li sr co hb n res) (fun _ _ _ => False) 0 0 25 [] [] (HM mo mw mr ms mt mu dd wi hi gt sp ta li sr co hb) n
def F_X11_want_25   (mr : MR) : Out MR Int32 := fok (1 : Int32) mr
set_option maxHeartbeats 1000000 in
set_option maxRecDepth 100000 in
theorem b_X11_want_25 (mo : MO) (mw : MW) (ms : Nat) (mt : A) (mu : A) (dd : A) (wi : A) (hi : A) (gt : A) (sp : A) (ta : A) (li : A) (sr : A) (co : A) (hb : aH) (n : Nat)   : Q_X11_want_25 mo mw ms mt mu dd wi hi gt sp ta li sr co hb n (F_X11_want_25 ) := by
  intro mr res hE hF
  unfold F_X11_want_25 at hE
  refine aw_iconst (v := 1) dX11_want_25 (by decide) ?_
  refine aw_goto (tgt := 30) dX11_want_26 (by decide) ?_
  exact aw_zret dX11_want_30 rfl (narB (by decide)) (Nat.zero_le _) (Nat.zero_le _) (Nat.zero_le _) (Nat.zero_le _) ⟨_, _, hE.symm, rfl, rfl, rfl⟩
def F_X11_want (a1 : Int32) (mr : MR) : Out MR Int32 := if ((mr_pos mr) + a1) ≤ (mr_size mr) then (F_X11_want_25  mr) else (fon (F_X11_wrong 1 (mr_size mr) mr) (fun z19 s19 => if z19 = 0 then (fok (0 : Int32) s19) else (F_X11_want_25  s19)) (fun _ _ => fno))
set_option maxHeartbeats 1000000 in
set_option maxRecDepth 100000 in
theorem kF_X11_want (mo : MO) (mw : MW) (mr : MR) (ms : Nat) (mt : A) (mu : A) (dd : A) (wi : A) (hi : A) (gt : A) (sp : A) (ta : A) (li : A) (sr : A) (co : A) (hb : aH) (n : Nat)  (a1 : Int32) (hF : F_X11_want a1 mr ≠ fno) : AM mX11_want 2 [.ref 31, .int a1] (HM mo mw mr ms mt mu dd wi hi gt sp ta li sr co hb) n 0 0 0 0 (P_X11_want mo mw ms mt mu dd wi hi gt sp ta li sr co hb n (F_X11_want a1 mr)) (fun _ _ _ => False) := by
  generalize hE : F_X11_want a1 mr = res at hF ⊢
  refine aw_of (by decide +kernel) rfl (Nat.le_of_ble_eq_true rfl) ?_
  unfold F_X11_want at hE
  refine aw_aload_n dX11_want_0 rfl ?_
  refine aw_getf (v := .int (mr_pos mr)) dX11_want_1 flX11_84_10 at_mod rfl ?_
  refine aw_iload_n dX11_want_4 rfl ?_
  refine aw_iadd dX11_want_5 ?_
  refine aw_aload_n dX11_want_6 rfl ?_
  refine aw_getf (v := .int (mr_size mr)) dX11_want_7 flX11_87_10 at_mod rfl ?_
  refine aw_icmp_le (tgt := 25) dX11_want_10 (by decide) (fun c10 => ?_) (fun c10 => ?_)
  · replace hE := fit hE c10
    exact aw_lv _ (fun _ h => absurd h List.not_mem_nil) (b_X11_want_25 mo mw ms mt mu dd wi hi gt sp ta li sr co hb n   mr _ hE hF)
  · replace hE := fif hE c10
    refine aw_aload_n dX11_want_13 rfl ?_
    refine aw_iconst (v := 1) dX11_want_14 (by decide) ?_
    refine aw_aload_n dX11_want_15 rfl ?_
    refine aw_getf (v := .int (mr_size mr)) dX11_want_16 flX11_87_10 at_mod rfl ?_
    refine aw_callV dX11_want_19 at_mod cvX11_90 rfl (kF_X11_wrong mo mw mr ms mt mu dd wi hi gt sp ta li sr co hb _  1 (mr_size mr) (fon_ne hE hF)) rfl (Nat.le_of_ble_eq_true rfl) (by decide) (by decide) (by decide) (by decide) (fun _ _ _ hf => False.elim hf) (fun r19 h19 n19 hp19 => ?_)
    obtain ⟨z19, s19, e19, rfl, rfl, rfl⟩ := hp19
    replace hE := fon_ok e19 hE
    refine aw_if_eq (tgt := 29) dX11_want_22 (by decide) (fun c22 => ?_) (fun c22 => ?_)
    · replace hE := fit hE c22
      refine aw_iconst (v := 0) dX11_want_29 (by decide) ?_
      exact aw_zret dX11_want_30 rfl (narB (by decide)) (Nat.zero_le _) (Nat.zero_le _) (Nat.zero_le _) (Nat.zero_le _) ⟨_, _, hE.symm, rfl, rfl, rfl⟩
    · replace hE := fif hE c22
      exact aw_lv _ (fun _ h => absurd h List.not_mem_nil) (b_X11_want_25 mo mw ms mt mu dd wi hi gt sp ta li sr co hb n   s19 _ hE hF)
def P_X11_skip (mo : MO) (mw : MW) (ms : Nat) (mt : A) (mu : A) (dd : A) (wi : A) (hi : A) (gt : A) (sp : A) (ta : A) (li : A) (sr : A) (co : A) (hb : aH) (n : Nat) (res : Out MR Unit) : Option Value → aH → Nat → Prop := fun r1 h2 n2 => ∃ (a : Unit) (s : MR), res = fok a s ∧ r1 = none ∧ h2 = HM mo mw s ms mt mu dd wi hi gt sp ta li sr co hb ∧ n = n2
abbrev Q_X11_skip_2 (mo : MO) (mw : MW) (ms : Nat) (mt : A) (mu : A) (dd : A) (wi : A) (hi : A) (gt : A) (sp : A) (ta : A) (li : A) (sr : A) (co : A) (hb : aH) (n : Nat) (k : Int32 → MR → Out MR Unit) : Prop := ∀ (v1 : Int32) (mr : MR) (res : Out MR Unit), k v1 mr = res → res ≠ fno → AW (fun _ _ => True) mX11_skip (rmD 2 0 0) 0 0 (P_X11_skip mo mw ms mt mu dd wi hi gt sp ta li sr co hb n res) (fun _ _ _ => False) 0 0 2 [(0, .ref 31), (1, .int v1)] [] (HM mo mw mr ms mt mu dd wi hi gt sp ta li sr co hb) n
abbrev Q_X11_skip_58 (mo : MO) (mw : MW) (ms : Nat) (mt : A) (mu : A) (dd : A) (wi : A) (hi : A) (gt : A) (sp : A) (ta : A) (li : A) (sr : A) (co : A) (hb : aH) (n : Nat) (k : Int32 → MR → Out MR Unit) : Prop := ∀ (v1 : Int32) (mr : MR) (res : Out MR Unit), k v1 mr = res → res ≠ fno → AW (fun _ _ => True) mX11_skip (rmD 2 0 0) 0 0 (P_X11_skip mo mw ms mt mu dd wi hi gt sp ta li sr co hb n res) (fun _ _ _ => False) 0 0 58 [(0, .ref 31), (1, .int v1)] [] (HM mo mw mr ms mt mu dd wi hi gt sp ta li sr co hb) n
abbrev Q_X11_skip_95 (mo : MO) (mw : MW) (ms : Nat) (mt : A) (mu : A) (dd : A) (wi : A) (hi : A) (gt : A) (sp : A) (ta : A) (li : A) (sr : A) (co : A) (hb : aH) (n : Nat) (k : Int32 → MR → Out MR Unit) : Prop := ∀ (v1 : Int32) (mr : MR) (res : Out MR Unit), k v1 mr = res → res ≠ fno → AW (fun _ _ => True) mX11_skip (rmD 2 0 0) 0 0 (P_X11_skip mo mw ms mt mu dd wi hi gt sp ta li sr co hb n res) (fun _ _ _ => False) 0 0 95 [(0, .ref 31), (1, .int v1)] [] (HM mo mw mr ms mt mu dd wi hi gt sp ta li sr co hb) n
def F_X11_skip_95 (sb : A) (k2 : Int32 → MR → Out MR Unit) (v1 : Int32) (mr : MR) : Out MR Unit := if (mr_size mr) ≤ (mr_pos mr) then (k2 v1 mr) else (k2 v1 ((mr_size mr), ((mr_pos mr) + 1), (mr_kind mr), (mr_whr mr), (mr_gw mr), (mr_gh mr), (mr_one mr), (mr_two mr), (mr_three mr)))
set_option maxHeartbeats 1000000 in
set_option maxRecDepth 100000 in
theorem b_X11_skip_95 (mo : MO) (mw : MW) (ms : Nat) (mt : A) (mu : A) (dd : A) (wi : A) (hi : A) (gt : A) (sp : A) (ta : A) (li : A) (sr : A) (co : A) (hb : aH) (n : Nat) (hms : isMS ms) (k2 : Int32 → MR → Out MR Unit) (hk2 : Q_X11_skip_2 mo mw ms mt mu dd wi hi gt sp ta li sr co hb n k2) : Q_X11_skip_95 mo mw ms mt mu dd wi hi gt sp ta li sr co hb n (F_X11_skip_95 (srcB ms mt mu) k2) := by
  intro v1 mr res hE hF
  unfold F_X11_skip_95 at hE
  refine aw_aload_n dX11_skip_95 rfl ?_
  refine aw_getf (v := .int (mr_pos mr)) dX11_skip_96 flX11_84_10 at_mod rfl ?_
  refine aw_aload_n dX11_skip_99 rfl ?_
  refine aw_getf (v := .int (mr_size mr)) dX11_skip_100 flX11_87_10 at_mod rfl ?_
  refine aw_icmp_ge (tgt := 2) dX11_skip_103 (by decide) (fun c103 => ?_) (fun c103 => ?_)
  · replace hE := fit hE c103
    exact aw_lv _ (List.forall_mem_cons.mpr ⟨rfl, (List.forall_mem_cons.mpr ⟨rfl, fun _ h => absurd h List.not_mem_nil⟩)⟩) (hk2 v1 mr _ hE hF)
  · replace hE := fif hE c103
    refine aw_aload_n dX11_skip_106 rfl ?_
    refine aw_dup dX11_skip_107 rfl ?_
    refine aw_getf (v := .int (mr_pos mr)) dX11_skip_108 flX11_84_10 at_mod rfl ?_
    refine aw_iconst (v := 1) dX11_skip_111 (by decide) ?_
    refine aw_iadd dX11_skip_112 ?_
    refine aw_putf dX11_skip_113 ptX11_84_10 at_mod (Nat.le_of_ble_eq_true rfl) ⟨rfl, rfl⟩ ?_
    refine aw_eqh (h2 := HM mo mw ((mr_size mr), ((mr_pos mr) + 1), (mr_kind mr), (mr_whr mr), (mr_gw mr), (mr_gh mr), (mr_one mr), (mr_two mr), (mr_three mr)) ms mt mu dd wi hi gt sp ta li sr co hb) up_mod ?_
    refine aw_goto (tgt := 2) dX11_skip_116 (by decide) ?_
    exact aw_lv _ (List.forall_mem_cons.mpr ⟨rfl, (List.forall_mem_cons.mpr ⟨rfl, fun _ h => absurd h List.not_mem_nil⟩)⟩) (hk2 v1 ((mr_size mr), ((mr_pos mr) + 1), (mr_kind mr), (mr_whr mr), (mr_gw mr), (mr_gh mr), (mr_one mr), (mr_two mr), (mr_three mr)) _ hE hF)
def F_X11_skip_58 (sb : A) (k2 : Int32 → MR → Out MR Unit) (k58 : Int32 → MR → Out MR Unit) (v1 : Int32) (mr : MR) : Out MR Unit := if (mr_size mr) ≤ (mr_pos mr) then (F_X11_skip_95 sb k2 v1 mr) else (fon (F_X11_b (mr_pos mr) sb) (fun z74 s74 => if z74 = 10 then (F_X11_skip_95 sb k2 v1 mr) else (k58 v1 ((mr_size mr), ((mr_pos mr) + 1), (mr_kind mr), (mr_whr mr), (mr_gw mr), (mr_gh mr), (mr_one mr), (mr_two mr), (mr_three mr)))) (fun _ _ => fno))
set_option maxHeartbeats 1000000 in
set_option maxRecDepth 100000 in
theorem b_X11_skip_58 (mo : MO) (mw : MW) (ms : Nat) (mt : A) (mu : A) (dd : A) (wi : A) (hi : A) (gt : A) (sp : A) (ta : A) (li : A) (sr : A) (co : A) (hb : aH) (n : Nat) (hms : isMS ms) (k2 : Int32 → MR → Out MR Unit) (hk2 : Q_X11_skip_2 mo mw ms mt mu dd wi hi gt sp ta li sr co hb n k2) (k58 : Int32 → MR → Out MR Unit) (hk58 : Q_X11_skip_58 mo mw ms mt mu dd wi hi gt sp ta li sr co hb n k58) : Q_X11_skip_58 mo mw ms mt mu dd wi hi gt sp ta li sr co hb n (F_X11_skip_58 (srcB ms mt mu) k2 k58) := by
  intro v1 mr res hE hF
  unfold F_X11_skip_58 at hE
  refine aw_aload_n dX11_skip_58 rfl ?_
  refine aw_getf (v := .int (mr_pos mr)) dX11_skip_59 flX11_84_10 at_mod rfl ?_
  refine aw_aload_n dX11_skip_62 rfl ?_
  refine aw_getf (v := .int (mr_size mr)) dX11_skip_63 flX11_87_10 at_mod rfl ?_
  refine aw_icmp_ge (tgt := 95) dX11_skip_66 (by decide) (fun c66 => ?_) (fun c66 => ?_)
  · replace hE := fit hE c66
    exact aw_lv _ (List.forall_mem_cons.mpr ⟨rfl, (List.forall_mem_cons.mpr ⟨rfl, fun _ h => absurd h List.not_mem_nil⟩)⟩) (b_X11_skip_95 mo mw ms mt mu dd wi hi gt sp ta li sr co hb n hms k2 hk2 v1 mr _ hE hF)
  · replace hE := fif hE c66
    refine aw_aload_n dX11_skip_69 rfl ?_
    refine aw_aload_n dX11_skip_70 rfl ?_
    refine aw_getf (v := .int (mr_pos mr)) dX11_skip_71 flX11_84_10 at_mod rfl ?_
    refine aw_callV dX11_skip_74 at_mod cvX11_99 rfl (kF_X11_b mo mw mr ms mt mu dd wi hi gt sp ta li sr co hb _ hms (mr_pos mr) (fon_ne hE hF)) rfl (Nat.le_of_ble_eq_true rfl) (by decide) (by decide) (by decide) (by decide) (fun _ _ _ hf => False.elim hf) (fun r74 h74 n74 hp74 => ?_)
    obtain ⟨z74, s74, e74, rfl, rfl, rfl⟩ := hp74
    replace hE := fon_ok e74 hE
    refine aw_bipush (v := 10) dX11_skip_77 (by decide) ?_
    refine aw_icmp_eq (tgt := 95) dX11_skip_79 (by decide) (fun c79 => ?_) (fun c79 => ?_)
    · replace hE := fit hE c79
      exact aw_lv _ (List.forall_mem_cons.mpr ⟨rfl, (List.forall_mem_cons.mpr ⟨rfl, fun _ h => absurd h List.not_mem_nil⟩)⟩) (b_X11_skip_95 mo mw ms mt mu dd wi hi gt sp ta li sr co hb n hms k2 hk2 v1 mr _ hE hF)
    · replace hE := fif hE c79
      refine aw_aload_n dX11_skip_82 rfl ?_
      refine aw_dup dX11_skip_83 rfl ?_
      refine aw_getf (v := .int (mr_pos mr)) dX11_skip_84 flX11_84_10 at_mod rfl ?_
      refine aw_iconst (v := 1) dX11_skip_87 (by decide) ?_
      refine aw_iadd dX11_skip_88 ?_
      refine aw_putf dX11_skip_89 ptX11_84_10 at_mod (Nat.le_of_ble_eq_true rfl) ⟨rfl, rfl⟩ ?_
      refine aw_eqh (h2 := HM mo mw ((mr_size mr), ((mr_pos mr) + 1), (mr_kind mr), (mr_whr mr), (mr_gw mr), (mr_gh mr), (mr_one mr), (mr_two mr), (mr_three mr)) ms mt mu dd wi hi gt sp ta li sr co hb) up_mod ?_
      refine aw_goto (tgt := 58) dX11_skip_92 (by decide) ?_
      exact aw_lv _ (List.forall_mem_cons.mpr ⟨rfl, (List.forall_mem_cons.mpr ⟨rfl, fun _ h => absurd h List.not_mem_nil⟩)⟩) (hk58 v1 ((mr_size mr), ((mr_pos mr) + 1), (mr_kind mr), (mr_whr mr), (mr_gw mr), (mr_gh mr), (mr_one mr), (mr_two mr), (mr_three mr)) _ hE hF)
def F_X11_skip_2 (sb : A) (k2 : Int32 → MR → Out MR Unit) (v1 : Int32) (mr : MR) : Out MR Unit := if v1 = 0 then (fok () mr) else (if (mr_size mr) ≤ (mr_pos mr) then (fok () mr) else (fon (F_X11_b (mr_pos mr) sb) (fun z23 s23 => if (F_X11_isBlank z23) = 0 then (fon (F_X11_b (mr_pos mr) sb) (fun z50 s50 => if z50 = 35 then (lp (fun _ _ => fno) (F_X11_skip_58 sb k2) FU v1 mr) else (k2 (0 : Int32) mr)) (fun _ _ => fno)) else (k2 v1 ((mr_size mr), ((mr_pos mr) + 1), (mr_kind mr), (mr_whr mr), (mr_gw mr), (mr_gh mr), (mr_one mr), (mr_two mr), (mr_three mr)))) (fun _ _ => fno)))
set_option maxHeartbeats 1000000 in
set_option maxRecDepth 100000 in
theorem b_X11_skip_2 (mo : MO) (mw : MW) (ms : Nat) (mt : A) (mu : A) (dd : A) (wi : A) (hi : A) (gt : A) (sp : A) (ta : A) (li : A) (sr : A) (co : A) (hb : aH) (n : Nat) (hms : isMS ms) (k2 : Int32 → MR → Out MR Unit) (hk2 : Q_X11_skip_2 mo mw ms mt mu dd wi hi gt sp ta li sr co hb n k2) : Q_X11_skip_2 mo mw ms mt mu dd wi hi gt sp ta li sr co hb n (F_X11_skip_2 (srcB ms mt mu) k2) := by
  intro v1 mr res hE hF
  unfold F_X11_skip_2 at hE
  refine aw_iload_n dX11_skip_2 rfl ?_
  refine aw_if_eq (tgt := 124) dX11_skip_3 (by decide) (fun c3 => ?_) (fun c3 => ?_)
  · replace hE := fit hE c3
    exact aw_vret dX11_skip_124 rfl (Nat.zero_le _) (Nat.zero_le _) (Nat.zero_le _) (Nat.zero_le _) ⟨_, _, hE.symm, rfl, rfl, rfl⟩
  · replace hE := fif hE c3
    refine aw_aload_n dX11_skip_6 rfl ?_
    refine aw_getf (v := .int (mr_pos mr)) dX11_skip_7 flX11_84_10 at_mod rfl ?_
    refine aw_aload_n dX11_skip_10 rfl ?_
    refine aw_getf (v := .int (mr_size mr)) dX11_skip_11 flX11_87_10 at_mod rfl ?_
    refine aw_icmp_ge (tgt := 124) dX11_skip_14 (by decide) (fun c14 => ?_) (fun c14 => ?_)
    · replace hE := fit hE c14
      exact aw_vret dX11_skip_124 rfl (Nat.zero_le _) (Nat.zero_le _) (Nat.zero_le _) (Nat.zero_le _) ⟨_, _, hE.symm, rfl, rfl, rfl⟩
    · replace hE := fif hE c14
      refine aw_aload_n dX11_skip_17 rfl ?_
      refine aw_aload_n dX11_skip_18 rfl ?_
      refine aw_aload_n dX11_skip_19 rfl ?_
      refine aw_getf (v := .int (mr_pos mr)) dX11_skip_20 flX11_84_10 at_mod rfl ?_
      refine aw_callV dX11_skip_23 at_mod cvX11_99 rfl (kF_X11_b mo mw mr ms mt mu dd wi hi gt sp ta li sr co hb _ hms (mr_pos mr) (fon_ne hE hF)) rfl (Nat.le_of_ble_eq_true rfl) (by decide) (by decide) (by decide) (by decide) (fun _ _ _ hf => False.elim hf) (fun r23 h23 n23 hp23 => ?_)
      obtain ⟨z23, s23, e23, rfl, rfl, rfl⟩ := hp23
      replace hE := fon_ok e23 hE
      refine aw_callV dX11_skip_26 at_mod cvX11_149 rfl (kF_X11_isBlank _ _ 31 z23) rfl (Nat.le_of_ble_eq_true rfl) (by decide) (by decide) (by decide) (by decide) (fun _ _ _ hf => False.elim hf) (fun r26 h26 n26 hp26 => ?_)
      obtain ⟨rfl, rfl, rfl⟩ := hp26
      refine aw_if_eq (tgt := 45) dX11_skip_29 (by decide) (fun c29 => ?_) (fun c29 => ?_)
      · replace hE := fit hE c29
        refine aw_aload_n dX11_skip_45 rfl ?_
        refine aw_aload_n dX11_skip_46 rfl ?_
        refine aw_getf (v := .int (mr_pos mr)) dX11_skip_47 flX11_84_10 at_mod rfl ?_
        refine aw_callV dX11_skip_50 at_mod cvX11_99 rfl (kF_X11_b mo mw mr ms mt mu dd wi hi gt sp ta li sr co hb _ hms (mr_pos mr) (fon_ne hE hF)) rfl (Nat.le_of_ble_eq_true rfl) (by decide) (by decide) (by decide) (by decide) (fun _ _ _ hf => False.elim hf) (fun r50 h50 n50 hp50 => ?_)
        obtain ⟨z50, s50, e50, rfl, rfl, rfl⟩ := hp50
        replace hE := fon_ok e50 hE
        refine aw_bipush (v := 35) dX11_skip_53 (by decide) ?_
        refine aw_icmp_ne (tgt := 119) dX11_skip_55 (by decide) (fun c55 => ?_) (fun c55 => ?_)
        · replace hE := fif hE c55
          refine aw_iconst (v := 0) dX11_skip_119 (by decide) ?_
          refine aw_istore_n (lv2 := [(1, _), (0, _)]) dX11_skip_120 (by decide) rfl ?_
          refine aw_goto (tgt := 2) dX11_skip_121 (by decide) ?_
          exact aw_lv _ (List.forall_mem_cons.mpr ⟨rfl, (List.forall_mem_cons.mpr ⟨rfl, fun _ h => absurd h List.not_mem_nil⟩)⟩) (hk2 (0 : Int32) mr _ hE hF)
        · replace hE := fit hE c55
          exact aw_lv _ (List.forall_mem_cons.mpr ⟨rfl, (List.forall_mem_cons.mpr ⟨rfl, fun _ h => absurd h List.not_mem_nil⟩)⟩) (lp_ind (Q_X11_skip_58 mo mw ms mt mu dd wi hi gt sp ta li sr co hb n) (fun _ _ res hq hF => (hF hq.symm).elim) (fun k hk => b_X11_skip_58 mo mw ms mt mu dd wi hi gt sp ta li sr co hb n hms k2 hk2 k hk) FU v1 mr _ hE hF)
      · replace hE := fif hE c29
        refine aw_aload_n dX11_skip_32 rfl ?_
        refine aw_dup dX11_skip_33 rfl ?_
        refine aw_getf (v := .int (mr_pos mr)) dX11_skip_34 flX11_84_10 at_mod rfl ?_
        refine aw_iconst (v := 1) dX11_skip_37 (by decide) ?_
        refine aw_iadd dX11_skip_38 ?_
        refine aw_putf dX11_skip_39 ptX11_84_10 at_mod (Nat.le_of_ble_eq_true rfl) ⟨rfl, rfl⟩ ?_
        refine aw_eqh (h2 := HM mo mw ((mr_size mr), ((mr_pos mr) + 1), (mr_kind mr), (mr_whr mr), (mr_gw mr), (mr_gh mr), (mr_one mr), (mr_two mr), (mr_three mr)) ms mt mu dd wi hi gt sp ta li sr co hb) up_mod ?_
        refine aw_goto (tgt := 2) dX11_skip_42 (by decide) ?_
        exact aw_lv _ (List.forall_mem_cons.mpr ⟨rfl, (List.forall_mem_cons.mpr ⟨rfl, fun _ h => absurd h List.not_mem_nil⟩)⟩) (hk2 v1 ((mr_size mr), ((mr_pos mr) + 1), (mr_kind mr), (mr_whr mr), (mr_gw mr), (mr_gh mr), (mr_one mr), (mr_two mr), (mr_three mr)) _ hE hF)
def F_X11_skip (sb : A) (mr : MR) : Out MR Unit := lp (fun _ _ => fno) (F_X11_skip_2 sb) FU (1 : Int32) mr
set_option maxHeartbeats 1000000 in
set_option maxRecDepth 100000 in
theorem kF_X11_skip (mo : MO) (mw : MW) (mr : MR) (ms : Nat) (mt : A) (mu : A) (dd : A) (wi : A) (hi : A) (gt : A) (sp : A) (ta : A) (li : A) (sr : A) (co : A) (hb : aH) (n : Nat) (hms : isMS ms)  (hF : F_X11_skip (srcB ms mt mu) mr ≠ fno) : AM mX11_skip 2 [.ref 31] (HM mo mw mr ms mt mu dd wi hi gt sp ta li sr co hb) n 0 0 0 0 (P_X11_skip mo mw ms mt mu dd wi hi gt sp ta li sr co hb n (F_X11_skip (srcB ms mt mu) mr)) (fun _ _ _ => False) := by
  generalize hE : F_X11_skip (srcB ms mt mu) mr = res at hF ⊢
  refine aw_of (by decide +kernel) rfl (Nat.le_of_ble_eq_true rfl) ?_
  unfold F_X11_skip at hE
  refine aw_iconst (v := 1) dX11_skip_0 (by decide) ?_
  refine aw_istore_n (lv2 := [(1, _), (0, _)]) dX11_skip_1 (by decide) rfl ?_
  exact aw_lv _ (List.forall_mem_cons.mpr ⟨rfl, (List.forall_mem_cons.mpr ⟨rfl, fun _ h => absurd h List.not_mem_nil⟩)⟩) (lp_ind (Q_X11_skip_2 mo mw ms mt mu dd wi hi gt sp ta li sr co hb n) (fun _ _ res hq hF => (hF hq.symm).elim) (fun k hk => b_X11_skip_2 mo mw ms mt mu dd wi hi gt sp ta li sr co hb n hms  k hk) FU (1 : Int32) mr _ hE hF)
