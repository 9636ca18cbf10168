def P_X5_readSamples (m0 : Mnt) (sh : Nat → Nat) (rr : Nat → Ras) (r : Nat) (ww : Nat → Row) (so : Nat) (pl : Pal) (qo : Qoi) (bm : Bmp) (tg : Tga) (px : Pcx) (fa : A) (hb : aH) (n : Nat) (res : Out (Ras × Src × Pnm) Unit) : Option Value → aH → Nat → Prop := fun r1 h2 n2 => ∃ (a : Unit) (s : (Ras × Src × Pnm)), res = fok a s ∧ r1 = none ∧ h2 = HC m0 sh (va_up rr r s.1) ww so s.2.1 pl qo s.2.2 bm tg px fa hb ∧ n = n2
def X_X5_readSamples (m0 : Mnt) (sh : Nat → Nat) (rr : Nat → Ras) (r : Nat) (ww : Nat → Row) (so : Nat) (pl : Pal) (qo : Qoi) (bm : Bmp) (tg : Tga) (px : Pcx) (fa : A) (hb : aH) (n : Nat) (res : Out (Ras × Src × Pnm) Unit) : String → aH → Nat → Prop := fun E h2 n2 => ∃ s : (Ras × Src × Pnm), res = fex E s ∧ h2 = HC m0 sh (va_up rr r s.1) ww so s.2.1 pl qo s.2.2 bm tg px fa hb ∧ n = n2
abbrev Q_X5_readSamples_17 (m0 : Mnt) (sh : Nat → Nat) (rr : Nat → Ras) (r : Nat) (ww : Nat → Row) (so : Nat) (pl : Pal) (qo : Qoi) (bm : Bmp) (tg : Tga) (px : Pcx) (fa : A) (hb : aH) (n : Nat) (k : Ras → Src → Pnm → Out (Ras × Src × Pnm) Unit) : Prop := ∀ (x : Ras) (sc : Src) (pn : Pnm) (res : Out (Ras × Src × Pnm) Unit), k x sc pn = res → res ≠ fno → AW (fun _ _ => True) mX5_readSamples (rmD 6 1 6) 0 0 (P_X5_readSamples m0 sh rr r ww so pl qo bm tg px fa hb n res) (X_X5_readSamples m0 sh rr r ww so pl qo bm tg px fa hb n res) 0 0 17 [(0, .ref 23), (1, .ref 16), (2, .ref r)] [] (HC m0 sh (va_up rr r x) ww so sc pl qo pn bm tg px fa hb) n
abbrev Q_X5_readSamples_22 (m0 : Mnt) (sh : Nat → Nat) (rr : Nat → Ras) (r : Nat) (ww : Nat → Row) (so : Nat) (pl : Pal) (qo : Qoi) (bm : Bmp) (tg : Tga) (px : Pcx) (fa : A) (hb : aH) (n : Nat) (k : Int32 → Ras → Src → Pnm → Out (Ras × Src × Pnm) Unit) : Prop := ∀ (t0 : Int32) (x : Ras) (sc : Src) (pn : Pnm) (res : Out (Ras × Src × Pnm) Unit), k t0 x sc pn = res → res ≠ fno → AW (fun _ _ => True) mX5_readSamples (rmD 6 1 6) 0 0 (P_X5_readSamples m0 sh rr r ww so pl qo bm tg px fa hb n res) (X_X5_readSamples m0 sh rr r ww so pl qo bm tg px fa hb n res) 0 0 22 [(0, .ref 23), (1, .ref 16), (2, .ref r)] [.int t0] (HC m0 sh (va_up rr r x) ww so sc pl qo pn bm tg px fa hb) n
abbrev Q_X5_readSamples_32 (m0 : Mnt) (sh : Nat → Nat) (rr : Nat → Ras) (r : Nat) (ww : Nat → Row) (so : Nat) (pl : Pal) (qo : Qoi) (bm : Bmp) (tg : Tga) (px : Pcx) (fa : A) (hb : aH) (n : Nat) (k : Int32 → Int32 → Int32 → Ras → Src → Pnm → Out (Ras × Src × Pnm) Unit) : Prop := ∀ (v3 : Int32) (v4 : Int32) (v5 : Int32) (x : Ras) (sc : Src) (pn : Pnm) (res : Out (Ras × Src × Pnm) Unit), k v3 v4 v5 x sc pn = res → res ≠ fno → AW (fun _ _ => True) mX5_readSamples (rmD 6 1 6) 0 0 (P_X5_readSamples m0 sh rr r ww so pl qo bm tg px fa hb n res) (X_X5_readSamples m0 sh rr r ww so pl qo bm tg px fa hb n res) 0 0 32 [(0, .ref 23), (1, .ref 16), (2, .ref r), (3, .int v3), (4, .int v4), (5, .int v5)] [] (HC m0 sh (va_up rr r x) ww so sc pl qo pn bm tg px fa hb) n
abbrev Q_X5_readSamples_60 (m0 : Mnt) (sh : Nat → Nat) (rr : Nat → Ras) (r : Nat) (ww : Nat → Row) (so : Nat) (pl : Pal) (qo : Qoi) (bm : Bmp) (tg : Tga) (px : Pcx) (fa : A) (hb : aH) (n : Nat) (k : Int32 → Int32 → Int32 → Int32 → Int32 → Ras → Src → Pnm → Out (Ras × Src × Pnm) Unit) : Prop := ∀ (v3 : Int32) (v4 : Int32) (v5 : Int32) (v6 : Int32) (t0 : Int32) (x : Ras) (sc : Src) (pn : Pnm) (res : Out (Ras × Src × Pnm) Unit), k v3 v4 v5 v6 t0 x sc pn = res → res ≠ fno → AW (fun _ _ => True) mX5_readSamples (rmD 6 1 6) 0 0 (P_X5_readSamples m0 sh rr r ww so pl qo bm tg px fa hb n res) (X_X5_readSamples m0 sh rr r ww so pl qo bm tg px fa hb n res) 0 0 60 [(0, .ref 23), (1, .ref 16), (2, .ref r), (3, .int v3), (4, .int v4), (5, .int v5), (6, .int v6)] [.int t0] (HC m0 sh (va_up rr r x) ww so sc pl qo pn bm tg px fa hb) n
abbrev Q_X5_readSamples_76 (m0 : Mnt) (sh : Nat → Nat) (rr : Nat → Ras) (r : Nat) (ww : Nat → Row) (so : Nat) (pl : Pal) (qo : Qoi) (bm : Bmp) (tg : Tga) (px : Pcx) (fa : A) (hb : aH) (n : Nat) (k : Int32 → Int32 → Int32 → Int32 → Int32 → Int32 → Ras → Src → Pnm → Out (Ras × Src × Pnm) Unit) : Prop := ∀ (v3 : Int32) (v4 : Int32) (v5 : Int32) (v6 : Int32) (v7 : Int32) (t0 : Int32) (x : Ras) (sc : Src) (pn : Pnm) (res : Out (Ras × Src × Pnm) Unit), k v3 v4 v5 v6 v7 t0 x sc pn = res → res ≠ fno → AW (fun _ _ => True) mX5_readSamples (rmD 6 1 6) 0 0 (P_X5_readSamples m0 sh rr r ww so pl qo bm tg px fa hb n res) (X_X5_readSamples m0 sh rr r ww so pl qo bm tg px fa hb n res) 0 0 76 [(0, .ref 23), (1, .ref 16), (2, .ref r), (3, .int v3), (4, .int v4), (5, .int v5), (6, .int v6), (7, .int v7)] [.int t0] (HC m0 sh (va_up rr r x) ww so sc pl qo pn bm tg px fa hb) n
def F_X5_readSamples_76 (sb : A) (k32 : Int32 → Int32 → Int32 → Ras → Src → Pnm → Out (Ras × Src × Pnm) Unit) (v3 : Int32) (v4 : Int32) (v5 : Int32) (v6 : Int32) (v7 : Int32) (t0 : Int32) (x : Ras) (sc : Src) (pn : Pnm) : Out (Ras × Src × Pnm) Unit := fon (F_X7_set v5 (F_X10_pixelOf v6 v7 t0 255) x) (fun z93 s93 => k32 v3 v4 (v5 + 1) s93 sc pn) (fun _ _ => fno)
set_option maxHeartbeats 1000000 in
set_option maxRecDepth 100000 in
theorem b_X5_readSamples_76 (m0 : Mnt) (sh : Nat → Nat) (rr : Nat → Ras) (r : Nat) (ww : Nat → Row) (so : Nat) (pl : Pal) (qo : Qoi) (bm : Bmp) (tg : Tga) (px : Pcx) (fa : A) (hb : aH) (n : Nat) (hr : isR r) (hso : isW so) (k32 : Int32 → Int32 → Int32 → Ras → Src → Pnm → Out (Ras × Src × Pnm) Unit) (hk32 : Q_X5_readSamples_32 m0 sh rr r ww so pl qo bm tg px fa hb n k32) : Q_X5_readSamples_76 m0 sh rr r ww so pl qo bm tg px fa hb n (F_X5_readSamples_76 (y_b (ww so)) k32) := by
  intro v3 v4 v5 v6 v7 t0 x sc pn res hE hF
  unfold F_X5_readSamples_76 at hE
  refine aw_istore (lv2 := [(8, _), (0, _), (1, _), (2, _), (3, _), (4, _), (5, _), (6, _), (7, _)]) dX5_readSamples_76 (by decide) rfl ?_
  refine aw_aload_n dX5_readSamples_78 rfl ?_
  refine aw_iload dX5_readSamples_79 rfl ?_
  refine aw_iload dX5_readSamples_81 rfl ?_
  refine aw_iload dX5_readSamples_83 rfl ?_
  refine aw_iload dX5_readSamples_85 rfl ?_
  refine aw_sipush (v := 255) dX5_readSamples_87 (by decide) ?_
  refine aw_callSN dX5_readSamples_90  csX5_120 rfl (kF_X10_pixelOf _ _ v6 v7 t0 255) rfl (Nat.le_of_ble_eq_true rfl) (by decide) (by decide) (by decide) (by decide)  (fun r90 h90 n90 hp90 => ?_)
  obtain ⟨rfl, rfl, rfl⟩ := hp90
  refine aw_callV dX5_readSamples_93 (at_ras hr) cvX5_108 rfl (kF_X7_set m0 sh rr r x ww so sc pl qo pn bm tg px fa hb _ hr v5 (F_X10_pixelOf v6 v7 t0 255) (fon_ne hE hF)) rfl (Nat.le_of_ble_eq_true rfl) (by decide) (by decide) (by decide) (by decide) (fun _ _ _ hf => False.elim hf) (fun r93 h93 n93 hp93 => ?_)
  obtain ⟨z93, s93, e93, rfl, rfl, rfl⟩ := hp93
  replace hE := fon_ok e93 hE
  refine aw_iinc (v := (v5 + 1)) (lv2 := [(5, _), (8, _), (0, _), (1, _), (2, _), (3, _), (4, _), (6, _), (7, _)]) dX5_readSamples_96 rfl (incE (by decide)) (by decide) rfl ?_
  refine aw_goto (tgt := 32) dX5_readSamples_99 (by decide) ?_
  exact aw_lv _ (List.forall_mem_cons.mpr ⟨rfl, (List.forall_mem_cons.mpr ⟨rfl, (List.forall_mem_cons.mpr ⟨rfl, (List.forall_mem_cons.mpr ⟨rfl, (List.forall_mem_cons.mpr ⟨rfl, (List.forall_mem_cons.mpr ⟨rfl, fun _ h => absurd h List.not_mem_nil⟩)⟩)⟩)⟩)⟩)⟩) (hk32 v3 v4 (v5 + 1) s93 sc pn _ hE hF)
def F_X5_readSamples_60 (sb : A) (k32 : Int32 → Int32 → Int32 → Ras → Src → Pnm → Out (Ras × Src × Pnm) Unit) (v3 : Int32) (v4 : Int32) (v5 : Int32) (v6 : Int32) (t0 : Int32) (x : Ras) (sc : Src) (pn : Pnm) : Out (Ras × Src × Pnm) Unit := if v3 = 0 then (F_X5_readSamples_76 sb k32 v3 v4 v5 v6 t0 v6 x sc pn) else (fon (F_X5_readSample sc sb pn) (fun z68 s68 => F_X5_readSamples_76 sb k32 v3 v4 v5 v6 t0 z68 x s68.1 s68.2) (fun E s68 => fex E (x, s68.1, s68.2)))
set_option maxHeartbeats 1000000 in
set_option maxRecDepth 100000 in
theorem b_X5_readSamples_60 (m0 : Mnt) (sh : Nat → Nat) (rr : Nat → Ras) (r : Nat) (ww : Nat → Row) (so : Nat) (pl : Pal) (qo : Qoi) (bm : Bmp) (tg : Tga) (px : Pcx) (fa : A) (hb : aH) (n : Nat) (hr : isR r) (hso : isW so) (k32 : Int32 → Int32 → Int32 → Ras → Src → Pnm → Out (Ras × Src × Pnm) Unit) (hk32 : Q_X5_readSamples_32 m0 sh rr r ww so pl qo bm tg px fa hb n k32) : Q_X5_readSamples_60 m0 sh rr r ww so pl qo bm tg px fa hb n (F_X5_readSamples_60 (y_b (ww so)) k32) := by
  intro v3 v4 v5 v6 t0 x sc pn res hE hF
  unfold F_X5_readSamples_60 at hE
  refine aw_istore (lv2 := [(7, _), (0, _), (1, _), (2, _), (3, _), (4, _), (5, _), (6, _)]) dX5_readSamples_60 (by decide) rfl ?_
  refine aw_iload_n dX5_readSamples_62 rfl ?_
  refine aw_if_eq (tgt := 74) dX5_readSamples_63 (by decide) (fun c63 => ?_) (fun c63 => ?_)
  · replace hE := fit hE c63
    refine aw_iload dX5_readSamples_74 rfl ?_
    exact aw_lv _ (List.forall_mem_cons.mpr ⟨rfl, (List.forall_mem_cons.mpr ⟨rfl, (List.forall_mem_cons.mpr ⟨rfl, (List.forall_mem_cons.mpr ⟨rfl, (List.forall_mem_cons.mpr ⟨rfl, (List.forall_mem_cons.mpr ⟨rfl, (List.forall_mem_cons.mpr ⟨rfl, (List.forall_mem_cons.mpr ⟨rfl, fun _ h => absurd h List.not_mem_nil⟩)⟩)⟩)⟩)⟩)⟩)⟩)⟩) (b_X5_readSamples_76 m0 sh rr r ww so pl qo bm tg px fa hb n hr hso k32 hk32 v3 v4 v5 v6 t0 v6 x sc pn _ hE hF)
  · replace hE := fif hE c63
    refine aw_aload_n dX5_readSamples_66 rfl ?_
    refine aw_aload_n dX5_readSamples_67 rfl ?_
    refine aw_callV dX5_readSamples_68 at_pnm cvX5_117 rfl (kF_X5_readSample m0 sh (va_up rr r x) ww so sc pl qo pn bm tg px fa hb _ hso  (fon_ne hE hF)) rfl (Nat.le_of_ble_eq_true rfl) (by decide) (by decide) (by decide) (by decide) (fun E h2 n2 hx => aw_out rfl (by decide) (by decide) (by obtain ⟨s68, e68, rfl, rfl⟩ := hx; exact ⟨_, (fon_ex e68 hE).symm, rfl, rfl⟩)) (fun r68 h68 n68 hp68 => ?_)
    obtain ⟨z68, s68, e68, rfl, rfl, rfl⟩ := hp68
    replace hE := fon_ok e68 hE
    refine aw_goto (tgt := 76) dX5_readSamples_71 (by decide) ?_
    exact aw_lv _ (List.forall_mem_cons.mpr ⟨rfl, (List.forall_mem_cons.mpr ⟨rfl, (List.forall_mem_cons.mpr ⟨rfl, (List.forall_mem_cons.mpr ⟨rfl, (List.forall_mem_cons.mpr ⟨rfl, (List.forall_mem_cons.mpr ⟨rfl, (List.forall_mem_cons.mpr ⟨rfl, (List.forall_mem_cons.mpr ⟨rfl, fun _ h => absurd h List.not_mem_nil⟩)⟩)⟩)⟩)⟩)⟩)⟩)⟩) (b_X5_readSamples_76 m0 sh rr r ww so pl qo bm tg px fa hb n hr hso k32 hk32 v3 v4 v5 v6 t0 z68 x s68.1 s68.2 _ hE hF)
def F_X5_readSamples_32 (sb : A) (k32 : Int32 → Int32 → Int32 → Ras → Src → Pnm → Out (Ras × Src × Pnm) Unit) (v3 : Int32) (v4 : Int32) (v5 : Int32) (x : Ras) (sc : Src) (pn : Pnm) : Out (Ras × Src × Pnm) Unit := if v4 ≤ v5 then (fok () (x, sc, pn)) else (fon (F_X5_readSample sc sb pn) (fun z41 s41 => if v3 = 0 then (F_X5_readSamples_60 sb k32 v3 v4 v5 z41 z41 x s41.1 s41.2) else (fon (F_X5_readSample s41.1 sb s41.2) (fun z52 s52 => F_X5_readSamples_60 sb k32 v3 v4 v5 z41 z52 x s52.1 s52.2) (fun E s52 => fex E (x, s52.1, s52.2)))) (fun E s41 => fex E (x, s41.1, s41.2)))
set_option maxHeartbeats 1000000 in
set_option maxRecDepth 100000 in
theorem b_X5_readSamples_32 (m0 : Mnt) (sh : Nat → Nat) (rr : Nat → Ras) (r : Nat) (ww : Nat → Row) (so : Nat) (pl : Pal) (qo : Qoi) (bm : Bmp) (tg : Tga) (px : Pcx) (fa : A) (hb : aH) (n : Nat) (hr : isR r) (hso : isW so) (k32 : Int32 → Int32 → Int32 → Ras → Src → Pnm → Out (Ras × Src × Pnm) Unit) (hk32 : Q_X5_readSamples_32 m0 sh rr r ww so pl qo bm tg px fa hb n k32) : Q_X5_readSamples_32 m0 sh rr r ww so pl qo bm tg px fa hb n (F_X5_readSamples_32 (y_b (ww so)) k32) := by
  intro v3 v4 v5 x sc pn res hE hF
  unfold F_X5_readSamples_32 at hE
  refine aw_iload dX5_readSamples_32 rfl ?_
  refine aw_iload dX5_readSamples_34 rfl ?_
  refine aw_icmp_ge (tgt := 102) dX5_readSamples_36 (by decide) (fun c36 => ?_) (fun c36 => ?_)
  · replace hE := fit hE c36
    exact aw_vret dX5_readSamples_102 rfl (Nat.zero_le _) (Nat.zero_le _) (Nat.zero_le _) (Nat.zero_le _) ⟨_, _, hE.symm, rfl, rfl, rfl⟩
  · replace hE := fif hE c36
    refine aw_aload_n dX5_readSamples_39 rfl ?_
    refine aw_aload_n dX5_readSamples_40 rfl ?_
    refine aw_callV dX5_readSamples_41 at_pnm cvX5_117 rfl (kF_X5_readSample m0 sh (va_up rr r x) ww so sc pl qo pn bm tg px fa hb _ hso  (fon_ne hE hF)) rfl (Nat.le_of_ble_eq_true rfl) (by decide) (by decide) (by decide) (by decide) (fun E h2 n2 hx => aw_out rfl (by decide) (by decide) (by obtain ⟨s41, e41, rfl, rfl⟩ := hx; exact ⟨_, (fon_ex e41 hE).symm, rfl, rfl⟩)) (fun r41 h41 n41 hp41 => ?_)
    obtain ⟨z41, s41, e41, rfl, rfl, rfl⟩ := hp41
    replace hE := fon_ok e41 hE
    refine aw_istore (lv2 := [(6, _), (0, _), (1, _), (2, _), (3, _), (4, _), (5, _)]) dX5_readSamples_44 (by decide) rfl ?_
    refine aw_iload_n dX5_readSamples_46 rfl ?_
    refine aw_if_eq (tgt := 58) dX5_readSamples_47 (by decide) (fun c47 => ?_) (fun c47 => ?_)
    · replace hE := fit hE c47
      refine aw_iload dX5_readSamples_58 rfl ?_
      exact aw_lv _ (List.forall_mem_cons.mpr ⟨rfl, (List.forall_mem_cons.mpr ⟨rfl, (List.forall_mem_cons.mpr ⟨rfl, (List.forall_mem_cons.mpr ⟨rfl, (List.forall_mem_cons.mpr ⟨rfl, (List.forall_mem_cons.mpr ⟨rfl, (List.forall_mem_cons.mpr ⟨rfl, fun _ h => absurd h List.not_mem_nil⟩)⟩)⟩)⟩)⟩)⟩)⟩) (b_X5_readSamples_60 m0 sh rr r ww so pl qo bm tg px fa hb n hr hso k32 hk32 v3 v4 v5 z41 z41 x s41.1 s41.2 _ hE hF)
    · replace hE := fif hE c47
      refine aw_aload_n dX5_readSamples_50 rfl ?_
      refine aw_aload_n dX5_readSamples_51 rfl ?_
      refine aw_callV dX5_readSamples_52 at_pnm cvX5_117 rfl (kF_X5_readSample m0 sh (va_up rr r x) ww so s41.1 pl qo s41.2 bm tg px fa hb _ hso  (fon_ne hE hF)) rfl (Nat.le_of_ble_eq_true rfl) (by decide) (by decide) (by decide) (by decide) (fun E h2 n2 hx => aw_out rfl (by decide) (by decide) (by obtain ⟨s52, e52, rfl, rfl⟩ := hx; exact ⟨_, (fon_ex e52 hE).symm, rfl, rfl⟩)) (fun r52 h52 n52 hp52 => ?_)
      obtain ⟨z52, s52, e52, rfl, rfl, rfl⟩ := hp52
      replace hE := fon_ok e52 hE
      refine aw_goto (tgt := 60) dX5_readSamples_55 (by decide) ?_
      exact aw_lv _ (List.forall_mem_cons.mpr ⟨rfl, (List.forall_mem_cons.mpr ⟨rfl, (List.forall_mem_cons.mpr ⟨rfl, (List.forall_mem_cons.mpr ⟨rfl, (List.forall_mem_cons.mpr ⟨rfl, (List.forall_mem_cons.mpr ⟨rfl, (List.forall_mem_cons.mpr ⟨rfl, fun _ h => absurd h List.not_mem_nil⟩)⟩)⟩)⟩)⟩)⟩)⟩) (b_X5_readSamples_60 m0 sh rr r ww so pl qo bm tg px fa hb n hr hso k32 hk32 v3 v4 v5 z41 z52 x s52.1 s52.2 _ hE hF)
def F_X5_readSamples_22 (sb : A)  (t0 : Int32) (x : Ras) (sc : Src) (pn : Pnm) : Out (Ras × Src × Pnm) Unit := fon (F_X7_count x) (fun z24 s24 => lp (fun _ _ _ _ _ _ => fno) (F_X5_readSamples_32 sb) FU t0 z24 (0 : Int32) x sc pn) (fun _ _ => fno)
set_option maxHeartbeats 1000000 in
set_option maxRecDepth 100000 in
theorem b_X5_readSamples_22 (m0 : Mnt) (sh : Nat → Nat) (rr : Nat → Ras) (r : Nat) (ww : Nat → Row) (so : Nat) (pl : Pal) (qo : Qoi) (bm : Bmp) (tg : Tga) (px : Pcx) (fa : A) (hb : aH) (n : Nat) (hr : isR r) (hso : isW so)  : Q_X5_readSamples_22 m0 sh rr r ww so pl qo bm tg px fa hb n (F_X5_readSamples_22 (y_b (ww so))) := by
  intro t0 x sc pn res hE hF
  unfold F_X5_readSamples_22 at hE
  refine aw_istore_n (lv2 := [(3, _), (0, _), (1, _), (2, _)]) dX5_readSamples_22 (by decide) rfl ?_
  refine aw_aload_n dX5_readSamples_23 rfl ?_
  refine aw_callV dX5_readSamples_24 (at_ras hr) cvX5_103 rfl (kF_X7_count m0 sh rr r x ww so sc pl qo pn bm tg px fa hb _ hr  (fon_ne hE hF)) rfl (Nat.le_of_ble_eq_true rfl) (by decide) (by decide) (by decide) (by decide) (fun _ _ _ hf => False.elim hf) (fun r24 h24 n24 hp24 => ?_)
  obtain ⟨z24, s24, e24, rfl, rfl, rfl⟩ := hp24
  replace hE := fon_ok e24 hE
  refine aw_istore (lv2 := [(4, _), (3, _), (0, _), (1, _), (2, _)]) dX5_readSamples_27 (by decide) rfl ?_
  refine aw_iconst (v := 0) dX5_readSamples_29 (by decide) ?_
  refine aw_istore (lv2 := [(5, _), (4, _), (3, _), (0, _), (1, _), (2, _)]) dX5_readSamples_30 (by decide) rfl ?_
  exact aw_lv _ (List.forall_mem_cons.mpr ⟨rfl, (List.forall_mem_cons.mpr ⟨rfl, (List.forall_mem_cons.mpr ⟨rfl, (List.forall_mem_cons.mpr ⟨rfl, (List.forall_mem_cons.mpr ⟨rfl, (List.forall_mem_cons.mpr ⟨rfl, fun _ h => absurd h List.not_mem_nil⟩)⟩)⟩)⟩)⟩)⟩) (lp_ind (Q_X5_readSamples_32 m0 sh rr r ww so pl qo bm tg px fa hb n) (fun _ _ _ _ _ _ res hq hF => (hF hq.symm).elim) (fun k hk => b_X5_readSamples_32 m0 sh rr r ww so pl qo bm tg px fa hb n hr hso  k hk) FU t0 z24 (0 : Int32) x sc pn _ hE hF)
def F_X5_readSamples_17 (sb : A)  (x : Ras) (sc : Src) (pn : Pnm) : Out (Ras × Src × Pnm) Unit := F_X5_readSamples_22 sb (1 : Int32) x sc pn
set_option maxHeartbeats 1000000 in
set_option maxRecDepth 100000 in
theorem b_X5_readSamples_17 (m0 : Mnt) (sh : Nat → Nat) (rr : Nat → Ras) (r : Nat) (ww : Nat → Row) (so : Nat) (pl : Pal) (qo : Qoi) (bm : Bmp) (tg : Tga) (px : Pcx) (fa : A) (hb : aH) (n : Nat) (hr : isR r) (hso : isW so)  : Q_X5_readSamples_17 m0 sh rr r ww so pl qo bm tg px fa hb n (F_X5_readSamples_17 (y_b (ww so))) := by
  intro x sc pn res hE hF
  unfold F_X5_readSamples_17 at hE
  refine aw_iconst (v := 1) dX5_readSamples_17 (by decide) ?_
  refine aw_goto (tgt := 22) dX5_readSamples_18 (by decide) ?_
  exact aw_lv _ (List.forall_mem_cons.mpr ⟨rfl, (List.forall_mem_cons.mpr ⟨rfl, (List.forall_mem_cons.mpr ⟨rfl, fun _ h => absurd h List.not_mem_nil⟩)⟩)⟩) (b_X5_readSamples_22 m0 sh rr r ww so pl qo bm tg px fa hb n hr hso  (1 : Int32) x sc pn _ hE hF)
def F_X5_readSamples (x : Ras) (sc : Src) (sb : A) (pn : Pnm) : Out (Ras × Src × Pnm) Unit := if (pn_f1 pn) = 3 then (F_X5_readSamples_17 sb x sc pn) else (if (pn_f1 pn) = 6 then (F_X5_readSamples_17 sb x sc pn) else (F_X5_readSamples_22 sb (0 : Int32) x sc pn))
set_option maxHeartbeats 1000000 in
set_option maxRecDepth 100000 in
theorem kF_X5_readSamples (m0 : Mnt) (sh : Nat → Nat) (rr : Nat → Ras) (r : Nat) (x : Ras) (ww : Nat → Row) (so : Nat) (sc : Src) (pl : Pal) (qo : Qoi) (pn : Pnm) (bm : Bmp) (tg : Tga) (px : Pcx) (fa : A) (hb : aH) (n : Nat) (hr : isR r) (hso : isW so)  (hF : F_X5_readSamples x sc (y_b (ww so)) pn ≠ fno) : AM mX5_readSamples 6 [.ref 23, .ref 16, .ref r] (HC m0 sh (va_up rr r x) ww so sc pl qo pn bm tg px fa hb) n 1 6 0 0 (P_X5_readSamples m0 sh rr r ww so pl qo bm tg px fa hb n (F_X5_readSamples x sc (y_b (ww so)) pn)) (X_X5_readSamples m0 sh rr r ww so pl qo bm tg px fa hb n (F_X5_readSamples x sc (y_b (ww so)) pn)) := by
  generalize hE : F_X5_readSamples x sc (y_b (ww so)) pn = res at hF ⊢
  refine aw_of (by decide +kernel) rfl (Nat.le_of_ble_eq_true rfl) ?_
  unfold F_X5_readSamples at hE
  refine aw_aload_n dX5_readSamples_0 rfl ?_
  refine aw_getf (v := .int (pn_f1 pn)) dX5_readSamples_1 flX5_29_4 at_pnm rfl ?_
  refine aw_iconst (v := 3) dX5_readSamples_4 (by decide) ?_
  refine aw_icmp_eq (tgt := 17) dX5_readSamples_5 (by decide) (fun c5 => ?_) (fun c5 => ?_)
  · replace hE := fit hE c5
    exact aw_lv _ (List.forall_mem_cons.mpr ⟨rfl, (List.forall_mem_cons.mpr ⟨rfl, (List.forall_mem_cons.mpr ⟨rfl, fun _ h => absurd h List.not_mem_nil⟩)⟩)⟩) (b_X5_readSamples_17 m0 sh rr r ww so pl qo bm tg px fa hb n hr hso  x sc pn _ hE hF)
  · replace hE := fif hE c5
    refine aw_aload_n dX5_readSamples_8 rfl ?_
    refine aw_getf (v := .int (pn_f1 pn)) dX5_readSamples_9 flX5_29_4 at_pnm rfl ?_
    refine aw_bipush (v := 6) dX5_readSamples_12 (by decide) ?_
    refine aw_icmp_ne (tgt := 21) dX5_readSamples_14 (by decide) (fun c14 => ?_) (fun c14 => ?_)
    · replace hE := fif hE c14
      refine aw_iconst (v := 0) dX5_readSamples_21 (by decide) ?_
      exact aw_lv _ (List.forall_mem_cons.mpr ⟨rfl, (List.forall_mem_cons.mpr ⟨rfl, (List.forall_mem_cons.mpr ⟨rfl, fun _ h => absurd h List.not_mem_nil⟩)⟩)⟩) (b_X5_readSamples_22 m0 sh rr r ww so pl qo bm tg px fa hb n hr hso  (0 : Int32) x sc pn _ hE hF)
    · replace hE := fit hE c14
      exact aw_lv _ (List.forall_mem_cons.mpr ⟨rfl, (List.forall_mem_cons.mpr ⟨rfl, (List.forall_mem_cons.mpr ⟨rfl, fun _ h => absurd h List.not_mem_nil⟩)⟩)⟩) (b_X5_readSamples_17 m0 sh rr r ww so pl qo bm tg px fa hb n hr hso  x sc pn _ hE hF)
def P_X6_readChunks (m0 : Mnt) (sh : Nat → Nat) (rr : Nat → Ras) (r : Nat) (ww : Nat → Row) (so : Nat) (pl : Pal) (pn : Pnm) (bm : Bmp) (tg : Tga) (px : Pcx) (fa : A) (hb : aH) (n : Nat) (res : Out (Ras × Src × Qoi) Int32) : Option Value → aH → Nat → Prop := fun r1 h2 n2 => ∃ (a : Int32) (s : (Ras × Src × Qoi)), res = fok a s ∧ r1 = some (.int a) ∧ h2 = HC m0 sh (va_up rr r s.1) ww so s.2.1 pl s.2.2 pn bm tg px fa hb ∧ n = n2
def X_X6_readChunks (m0 : Mnt) (sh : Nat → Nat) (rr : Nat → Ras) (r : Nat) (ww : Nat → Row) (so : Nat) (pl : Pal) (pn : Pnm) (bm : Bmp) (tg : Tga) (px : Pcx) (fa : A) (hb : aH) (n : Nat) (res : Out (Ras × Src × Qoi) Int32) : String → aH → Nat → Prop := fun E h2 n2 => ∃ s : (Ras × Src × Qoi), res = fex E s ∧ h2 = HC m0 sh (va_up rr r s.1) ww so s.2.1 pl s.2.2 pn bm tg px fa hb ∧ n = n2
abbrev Q_X6_readChunks_21 (m0 : Mnt) (sh : Nat → Nat) (rr : Nat → Ras) (r : Nat) (ww : Nat → Row) (so : Nat) (pl : Pal) (pn : Pnm) (bm : Bmp) (tg : Tga) (px : Pcx) (fa : A) (hb : aH) (n : Nat) (k : Int32 → Int32 → Int32 → Int32 → Ras → Src → Qoi → Out (Ras × Src × Qoi) Int32) : Prop := ∀ (v3 : Int32) (v4 : Int32) (v6 : Int32) (v7 : Int32) (x : Ras) (sc : Src) (qo : Qoi) (res : Out (Ras × Src × Qoi) Int32), k v3 v4 v6 v7 x sc qo = res → res ≠ fno → AW (fun _ _ => True) mX6_readChunks (rmD 5 1 6) 0 0 (P_X6_readChunks m0 sh rr r ww so pl pn bm tg px fa hb n res) (X_X6_readChunks m0 sh rr r ww so pl pn bm tg px fa hb n res) 0 0 21 [(0, .ref 21), (1, .ref 16), (2, .ref r), (3, .int v3), (4, .int v4), (6, .int v6), (7, .int v7)] [] (HC m0 sh (va_up rr r x) ww so sc pl qo pn bm tg px fa hb) n
abbrev Q_X6_readChunks_66 (m0 : Mnt) (sh : Nat → Nat) (rr : Nat → Ras) (r : Nat) (ww : Nat → Row) (so : Nat) (pl : Pal) (pn : Pnm) (bm : Bmp) (tg : Tga) (px : Pcx) (fa : A) (hb : aH) (n : Nat) (k : Int32 → Int32 → Int32 → Int32 → Int32 → Int32 → Ras → Src → Qoi → Out (Ras × Src × Qoi) Int32) : Prop := ∀ (v3 : Int32) (v4 : Int32) (v6 : Int32) (v7 : Int32) (v8 : Int32) (v9 : Int32) (x : Ras) (sc : Src) (qo : Qoi) (res : Out (Ras × Src × Qoi) Int32), k v3 v4 v6 v7 v8 v9 x sc qo = res → res ≠ fno → AW (fun _ _ => True) mX6_readChunks (rmD 5 1 6) 0 0 (P_X6_readChunks m0 sh rr r ww so pl pn bm tg px fa hb n res) (X_X6_readChunks m0 sh rr r ww so pl pn bm tg px fa hb n res) 0 0 66 [(0, .ref 21), (1, .ref 16), (2, .ref r), (3, .int v3), (4, .int v4), (6, .int v6), (7, .int v7), (8, .int v8), (9, .int v9)] [] (HC m0 sh (va_up rr r x) ww so sc pl qo pn bm tg px fa hb) n
abbrev Q_X6_readChunks_67 (m0 : Mnt) (sh : Nat → Nat) (rr : Nat → Ras) (r : Nat) (ww : Nat → Row) (so : Nat) (pl : Pal) (pn : Pnm) (bm : Bmp) (tg : Tga) (px : Pcx) (fa : A) (hb : aH) (n : Nat) (k : Int32 → Int32 → Int32 → Int32 → Int32 → Int32 → Int32 → Ras → Src → Qoi → Out (Ras × Src × Qoi) Int32) : Prop := ∀ (v3 : Int32) (v4 : Int32) (v6 : Int32) (v7 : Int32) (v8 : Int32) (v9 : Int32) (t0 : Int32) (x : Ras) (sc : Src) (qo : Qoi) (res : Out (Ras × Src × Qoi) Int32), k v3 v4 v6 v7 v8 v9 t0 x sc qo = res → res ≠ fno → AW (fun _ _ => True) mX6_readChunks (rmD 5 1 6) 0 0 (P_X6_readChunks m0 sh rr r ww so pl pn bm tg px fa hb n res) (X_X6_readChunks m0 sh rr r ww so pl pn bm tg px fa hb n res) 0 0 67 [(0, .ref 21), (1, .ref 16), (2, .ref r), (3, .int v3), (4, .int v4), (6, .int v6), (7, .int v7), (8, .int v8), (9, .int v9)] [.int t0] (HC m0 sh (va_up rr r x) ww so sc pl qo pn bm tg px fa hb) n
abbrev Q_X6_readChunks_93 (m0 : Mnt) (sh : Nat → Nat) (rr : Nat → Ras) (r : Nat) (ww : Nat → Row) (so : Nat) (pl : Pal) (pn : Pnm) (bm : Bmp) (tg : Tga) (px : Pcx) (fa : A) (hb : aH) (n : Nat) (k : Int32 → Ras → Src → Qoi → Out (Ras × Src × Qoi) Int32) : Prop := ∀ (v8 : Int32) (x : Ras) (sc : Src) (qo : Qoi) (res : Out (Ras × Src × Qoi) Int32), k v8 x sc qo = res → res ≠ fno → AW (fun _ _ => True) mX6_readChunks (rmD 5 1 6) 0 0 (P_X6_readChunks m0 sh rr r ww so pl pn bm tg px fa hb n res) (X_X6_readChunks m0 sh rr r ww so pl pn bm tg px fa hb n res) 0 0 93 [(1, .ref 16), (8, .int v8)] [] (HC m0 sh (va_up rr r x) ww so sc pl qo pn bm tg px fa hb) n
abbrev Q_X6_readChunks_100 (m0 : Mnt) (sh : Nat → Nat) (rr : Nat → Ras) (r : Nat) (ww : Nat → Row) (so : Nat) (pl : Pal) (pn : Pnm) (bm : Bmp) (tg : Tga) (px : Pcx) (fa : A) (hb : aH) (n : Nat) (k : Int32 → Int32 → Int32 → Int32 → Int32 → Ras → Src → Qoi → Out (Ras × Src × Qoi) Int32) : Prop := ∀ (v3 : Int32) (v5 : Int32) (v6 : Int32) (v7 : Int32) (v9 : Int32) (x : Ras) (sc : Src) (qo : Qoi) (res : Out (Ras × Src × Qoi) Int32), k v3 v5 v6 v7 v9 x sc qo = res → res ≠ fno → AW (fun _ _ => True) mX6_readChunks (rmD 5 1 6) 0 0 (P_X6_readChunks m0 sh rr r ww so pl pn bm tg px fa hb n res) (X_X6_readChunks m0 sh rr r ww so pl pn bm tg px fa hb n res) 0 0 100 [(0, .ref 21), (1, .ref 16), (2, .ref r), (3, .int v3), (5, .int v5), (6, .int v6), (7, .int v7), (9, .int v9)] [] (HC m0 sh (va_up rr r x) ww so sc pl qo pn bm tg px fa hb) n
abbrev Q_X6_readChunks_114 (m0 : Mnt) (sh : Nat → Nat) (rr : Nat → Ras) (r : Nat) (ww : Nat → Row) (so : Nat) (pl : Pal) (pn : Pnm) (bm : Bmp) (tg : Tga) (px : Pcx) (fa : A) (hb : aH) (n : Nat) (k : Int32 → Int32 → Int32 → Int32 → Int32 → Int32 → Ras → Src → Qoi → Out (Ras × Src × Qoi) Int32) : Prop := ∀ (v3 : Int32) (v5 : Int32) (v6 : Int32) (v7 : Int32) (v9 : Int32) (v10 : Int32) (x : Ras) (sc : Src) (qo : Qoi) (res : Out (Ras × Src × Qoi) Int32), k v3 v5 v6 v7 v9 v10 x sc qo = res → res ≠ fno → AW (fun _ _ => True) mX6_readChunks (rmD 5 1 6) 0 0 (P_X6_readChunks m0 sh rr r ww so pl pn bm tg px fa hb n res) (X_X6_readChunks m0 sh rr r ww so pl pn bm tg px fa hb n res) 0 0 114 [(0, .ref 21), (1, .ref 16), (2, .ref r), (3, .int v3), (5, .int v5), (6, .int v6), (7, .int v7), (9, .int v9), (10, .int v10)] [] (HC m0 sh (va_up rr r x) ww so sc pl qo pn bm tg px fa hb) n
def F_X6_readChunks_114 (sb : A) (k21 : Int32 → Int32 → Int32 → Int32 → Ras → Src → Qoi → Out (Ras × Src × Qoi) Int32) (k114 : Int32 → Int32 → Int32 → Int32 → Int32 → Int32 → Ras → Src → Qoi → Out (Ras × Src × Qoi) Int32) (v3 : Int32) (v5 : Int32) (v6 : Int32) (v7 : Int32) (v9 : Int32) (v10 : Int32) (x : Ras) (sc : Src) (qo : Qoi) : Out (Ras × Src × Qoi) Int32 := if v5 ≤ v10 then (fon (F_X6_keep qo) (fun z141 s141 => k21 (v3 + 1) v9 v6 (v7 + v5) x sc s141) (fun _ _ => fno)) else (fon (F_X7_set (v7 + v10) (qo_last qo) x) (fun z131 s131 => k114 v3 v5 v6 v7 v9 (v10 + 1) s131 sc qo) (fun _ _ => fno))
set_option maxHeartbeats 1000000 in
set_option maxRecDepth 100000 in
theorem b_X6_readChunks_114 (m0 : Mnt) (sh : Nat → Nat) (rr : Nat → Ras) (r : Nat) (ww : Nat → Row) (so : Nat) (pl : Pal) (pn : Pnm) (bm : Bmp) (tg : Tga) (px : Pcx) (fa : A) (hb : aH) (n : Nat) (hr : isR r) (hso : isW so) (k21 : Int32 → Int32 → Int32 → Int32 → Ras → Src → Qoi → Out (Ras × Src × Qoi) Int32) (hk21 : Q_X6_readChunks_21 m0 sh rr r ww so pl pn bm tg px fa hb n k21) (k114 : Int32 → Int32 → Int32 → Int32 → Int32 → Int32 → Ras → Src → Qoi → Out (Ras × Src × Qoi) Int32) (hk114 : Q_X6_readChunks_114 m0 sh rr r ww so pl pn bm tg px fa hb n k114) : Q_X6_readChunks_114 m0 sh rr r ww so pl pn bm tg px fa hb n (F_X6_readChunks_114 (y_b (ww so)) k21 k114) := by
  intro v3 v5 v6 v7 v9 v10 x sc qo res hE hF
  unfold F_X6_readChunks_114 at hE
  refine aw_iload dX6_readChunks_114 rfl ?_
  refine aw_iload dX6_readChunks_116 rfl ?_
  refine aw_icmp_ge (tgt := 140) dX6_readChunks_118 (by decide) (fun c118 => ?_) (fun c118 => ?_)
  · replace hE := fit hE c118
    refine aw_aload_n dX6_readChunks_140 rfl ?_
    refine aw_callV dX6_readChunks_141 at_qoi cvX6_84 rfl (kF_X6_keep m0 sh (va_up rr r x) ww so sc pl qo pn bm tg px fa hb _   (fon_ne hE hF)) rfl (Nat.le_of_ble_eq_true rfl) (by decide) (by decide) (by decide) (by decide) (fun _ _ _ hf => False.elim hf) (fun r141 h141 n141 hp141 => ?_)
    obtain ⟨z141, s141, e141, rfl, rfl, rfl⟩ := hp141
    replace hE := fon_ok e141 hE
    refine aw_iload dX6_readChunks_144 rfl ?_
    refine aw_istore (lv2 := [(4, _), (0, _), (1, _), (2, _), (3, _), (5, _), (6, _), (7, _), (9, _), (10, _)]) dX6_readChunks_146 (by decide) rfl ?_
    refine aw_iinc (v := (v3 + 1)) (lv2 := [(3, _), (4, _), (0, _), (1, _), (2, _), (5, _), (6, _), (7, _), (9, _), (10, _)]) dX6_readChunks_148 rfl (incE (by decide)) (by decide) rfl ?_
    refine aw_iload dX6_readChunks_151 rfl ?_
    refine aw_iload dX6_readChunks_153 rfl ?_
    refine aw_iadd dX6_readChunks_155 ?_
    refine aw_istore (lv2 := [(7, _), (3, _), (4, _), (0, _), (1, _), (2, _), (5, _), (6, _), (9, _), (10, _)]) dX6_readChunks_156 (by decide) rfl ?_
    refine aw_goto (tgt := 21) dX6_readChunks_158 (by decide) ?_
    exact aw_lv _ (List.forall_mem_cons.mpr ⟨rfl, (List.forall_mem_cons.mpr ⟨rfl, (List.forall_mem_cons.mpr ⟨rfl, (List.forall_mem_cons.mpr ⟨rfl, (List.forall_mem_cons.mpr ⟨rfl, (List.forall_mem_cons.mpr ⟨rfl, (List.forall_mem_cons.mpr ⟨rfl, fun _ h => absurd h List.not_mem_nil⟩)⟩)⟩)⟩)⟩)⟩)⟩) (hk21 (v3 + 1) v9 v6 (v7 + v5) x sc s141 _ hE hF)
  · replace hE := fif hE c118
    refine aw_aload_n dX6_readChunks_121 rfl ?_
    refine aw_iload dX6_readChunks_122 rfl ?_
    refine aw_iload dX6_readChunks_124 rfl ?_
    refine aw_iadd dX6_readChunks_126 ?_
    refine aw_aload_n dX6_readChunks_127 rfl ?_
    refine aw_getf (v := .int (qo_last qo)) dX6_readChunks_128 flX6_78_5 at_qoi rfl ?_
    refine aw_callV dX6_readChunks_131 (at_ras hr) cvX6_81 rfl (kF_X7_set m0 sh rr r x ww so sc pl qo pn bm tg px fa hb _ hr (v7 + v10) (qo_last qo) (fon_ne hE hF)) rfl (Nat.le_of_ble_eq_true rfl) (by decide) (by decide) (by decide) (by decide) (fun _ _ _ hf => False.elim hf) (fun r131 h131 n131 hp131 => ?_)
    obtain ⟨z131, s131, e131, rfl, rfl, rfl⟩ := hp131
    replace hE := fon_ok e131 hE
    refine aw_iinc (v := (v10 + 1)) (lv2 := [(10, _), (0, _), (1, _), (2, _), (3, _), (5, _), (6, _), (7, _), (9, _)]) dX6_readChunks_134 rfl (incE (by decide)) (by decide) rfl ?_
    refine aw_goto (tgt := 114) dX6_readChunks_137 (by decide) ?_
    exact aw_lv _ (List.forall_mem_cons.mpr ⟨rfl, (List.forall_mem_cons.mpr ⟨rfl, (List.forall_mem_cons.mpr ⟨rfl, (List.forall_mem_cons.mpr ⟨rfl, (List.forall_mem_cons.mpr ⟨rfl, (List.forall_mem_cons.mpr ⟨rfl, (List.forall_mem_cons.mpr ⟨rfl, (List.forall_mem_cons.mpr ⟨rfl, (List.forall_mem_cons.mpr ⟨rfl, fun _ h => absurd h List.not_mem_nil⟩)⟩)⟩)⟩)⟩)⟩)⟩)⟩)⟩) (hk114 v3 v5 v6 v7 v9 (v10 + 1) s131 sc qo _ hE hF)
def F_X6_readChunks_100 (sb : A) (k21 : Int32 → Int32 → Int32 → Int32 → Ras → Src → Qoi → Out (Ras × Src × Qoi) Int32) (v3 : Int32) (v5 : Int32) (v6 : Int32) (v7 : Int32) (v9 : Int32) (x : Ras) (sc : Src) (qo : Qoi) : Out (Ras × Src × Qoi) Int32 := fon (F_X6_readPixel v9 sc sb qo) (fun z105 s105 => lp (fun _ _ _ _ _ _ _ _ _ => fno) (F_X6_readChunks_114 sb k21) FU v3 v5 v6 v7 v9 (0 : Int32) x s105 ((qo_f1 qo), (qo_f2 qo), (qo_f3 qo), z105, (qo_pl qo))) (fun E s105 => fex E (x, s105, qo))
set_option maxHeartbeats 1000000 in
set_option maxRecDepth 100000 in
theorem b_X6_readChunks_100 (m0 : Mnt) (sh : Nat → Nat) (rr : Nat → Ras) (r : Nat) (ww : Nat → Row) (so : Nat) (pl : Pal) (pn : Pnm) (bm : Bmp) (tg : Tga) (px : Pcx) (fa : A) (hb : aH) (n : Nat) (hr : isR r) (hso : isW so) (k21 : Int32 → Int32 → Int32 → Int32 → Ras → Src → Qoi → Out (Ras × Src × Qoi) Int32) (hk21 : Q_X6_readChunks_21 m0 sh rr r ww so pl pn bm tg px fa hb n k21) : Q_X6_readChunks_100 m0 sh rr r ww so pl pn bm tg px fa hb n (F_X6_readChunks_100 (y_b (ww so)) k21) := by
  intro v3 v5 v6 v7 v9 x sc qo res hE hF
  unfold F_X6_readChunks_100 at hE
  refine aw_aload_n dX6_readChunks_100 rfl ?_
  refine aw_aload_n dX6_readChunks_101 rfl ?_
  refine aw_aload_n dX6_readChunks_102 rfl ?_
  refine aw_iload dX6_readChunks_103 rfl ?_
  refine aw_callV dX6_readChunks_105 at_qoi cvX6_74 rfl (kF_X6_readPixel m0 sh (va_up rr r x) ww so sc pl qo pn bm tg px fa hb _ hso v9 (fon_ne hE hF)) rfl (Nat.le_of_ble_eq_true rfl) (by decide) (by decide) (by decide) (by decide) (fun E h2 n2 hx => aw_out rfl (by decide) (by decide) (by obtain ⟨s105, e105, rfl, rfl⟩ := hx; exact ⟨_, (fon_ex e105 hE).symm, rfl, rfl⟩)) (fun r105 h105 n105 hp105 => ?_)
  obtain ⟨z105, s105, e105, rfl, rfl, rfl⟩ := hp105
  replace hE := fon_ok e105 hE
  refine aw_putf dX6_readChunks_108 ptX6_78_5 at_qoi (Nat.le_of_ble_eq_true rfl) ⟨rfl, rfl⟩ ?_
  refine aw_eqh (h2 := HC m0 sh (va_up rr r x) ww so s105 pl ((qo_f1 qo), (qo_f2 qo), (qo_f3 qo), z105, (qo_pl qo)) pn bm tg px fa hb) up_qoi ?_
  refine aw_iconst (v := 0) dX6_readChunks_111 (by decide) ?_
  refine aw_istore (lv2 := [(10, _), (0, _), (1, _), (2, _), (3, _), (5, _), (6, _), (7, _), (9, _)]) dX6_readChunks_112 (by decide) rfl ?_
  exact aw_lv _ (List.forall_mem_cons.mpr ⟨rfl, (List.forall_mem_cons.mpr ⟨rfl, (List.forall_mem_cons.mpr ⟨rfl, (List.forall_mem_cons.mpr ⟨rfl, (List.forall_mem_cons.mpr ⟨rfl, (List.forall_mem_cons.mpr ⟨rfl, (List.forall_mem_cons.mpr ⟨rfl, (List.forall_mem_cons.mpr ⟨rfl, (List.forall_mem_cons.mpr ⟨rfl, fun _ h => absurd h List.not_mem_nil⟩)⟩)⟩)⟩)⟩)⟩)⟩)⟩)⟩) (lp_ind (Q_X6_readChunks_114 m0 sh rr r ww so pl pn bm tg px fa hb n) (fun _ _ _ _ _ _ _ _ _ res hq hF => (hF hq.symm).elim) (fun k hk => b_X6_readChunks_114 m0 sh rr r ww so pl pn bm tg px fa hb n hr hso k21 hk21 k hk) FU v3 v5 v6 v7 v9 (0 : Int32) x s105 ((qo_f1 qo), (qo_f2 qo), (qo_f3 qo), z105, (qo_pl qo)) _ hE hF)
def F_X6_readChunks_93 (sb : A)  (v8 : Int32) (x : Ras) (sc : Src) (qo : Qoi) : Out (Ras × Src × Qoi) Int32 := fon (F_X8_refuse 4 v8 sc) (fun _ _ => fno) (fun E s97 => fex E (x, s97, qo))
set_option maxHeartbeats 1000000 in
set_option maxRecDepth 100000 in
theorem b_X6_readChunks_93 (m0 : Mnt) (sh : Nat → Nat) (rr : Nat → Ras) (r : Nat) (ww : Nat → Row) (so : Nat) (pl : Pal) (pn : Pnm) (bm : Bmp) (tg : Tga) (px : Pcx) (fa : A) (hb : aH) (n : Nat) (hr : isR r) (hso : isW so)  : Q_X6_readChunks_93 m0 sh rr r ww so pl pn bm tg px fa hb n (F_X6_readChunks_93 (y_b (ww so))) := by
  intro v8 x sc qo res hE hF
  unfold F_X6_readChunks_93 at hE
  refine aw_aload_n dX6_readChunks_93 rfl ?_
  refine aw_iconst (v := 4) dX6_readChunks_94 (by decide) ?_
  refine aw_iload dX6_readChunks_95 rfl ?_
  refine aw_callV dX6_readChunks_97 at_src cvX6_59 rfl (kF_X8_refuse m0 sh (va_up rr r x) ww so sc pl qo pn bm tg px fa hb _  4 v8 (fon_ne hE hF)) rfl (Nat.le_of_ble_eq_true rfl) (by decide) (by decide) (by decide) (by decide) (fun E h2 n2 hx => aw_out rfl (by decide) (by decide) (by obtain ⟨s97, e97, rfl, rfl⟩ := hx; exact ⟨_, (fon_ex e97 hE).symm, rfl, rfl⟩)) (fun r97 h97 n97 hp97 => ?_)
  obtain ⟨z97, s97, e97, rfl, rfl, rfl⟩ := hp97
  exact (hF (fon_ok e97 hE).symm).elim
def F_X6_readChunks_67 (sb : A) (k21 : Int32 → Int32 → Int32 → Int32 → Ras → Src → Qoi → Out (Ras × Src × Qoi) Int32) (v3 : Int32) (v4 : Int32) (v6 : Int32) (v7 : Int32) (v8 : Int32) (v9 : Int32) (t0 : Int32) (x : Ras) (sc : Src) (qo : Qoi) : Out (Ras × Src × Qoi) Int32 := if (v6 - v7) < t0 then (F_X6_readChunks_93 sb v8 x sc qo) else (if 64 ≤ v9 then (F_X6_readChunks_100 sb k21 v3 t0 v6 v7 v9 x sc qo) else (if v9 = v4 then (F_X6_readChunks_93 sb v8 x sc qo) else (F_X6_readChunks_100 sb k21 v3 t0 v6 v7 v9 x sc qo)))
set_option maxHeartbeats 1000000 in
set_option maxRecDepth 100000 in
theorem b_X6_readChunks_67 (m0 : Mnt) (sh : Nat → Nat) (rr : Nat → Ras) (r : Nat) (ww : Nat → Row) (so : Nat) (pl : Pal) (pn : Pnm) (bm : Bmp) (tg : Tga) (px : Pcx) (fa : A) (hb : aH) (n : Nat) (hr : isR r) (hso : isW so) (k21 : Int32 → Int32 → Int32 → Int32 → Ras → Src → Qoi → Out (Ras × Src × Qoi) Int32) (hk21 : Q_X6_readChunks_21 m0 sh rr r ww so pl pn bm tg px fa hb n k21) : Q_X6_readChunks_67 m0 sh rr r ww so pl pn bm tg px fa hb n (F_X6_readChunks_67 (y_b (ww so)) k21) := by
  intro v3 v4 v6 v7 v8 v9 t0 x sc qo res hE hF
  unfold F_X6_readChunks_67 at hE
  refine aw_istore (lv2 := [(5, _), (0, _), (1, _), (2, _), (3, _), (4, _), (6, _), (7, _), (8, _), (9, _)]) dX6_readChunks_67 (by decide) rfl ?_
  refine aw_iload dX6_readChunks_69 rfl ?_
  refine aw_iload dX6_readChunks_71 rfl ?_
  refine aw_iload dX6_readChunks_73 rfl ?_
  refine aw_isub dX6_readChunks_75 ?_
  refine aw_icmp_gt (tgt := 93) dX6_readChunks_76 (by decide) (fun c76 => ?_) (fun c76 => ?_)
  · replace hE := fit hE c76
    exact aw_lv _ (List.forall_mem_cons.mpr ⟨rfl, (List.forall_mem_cons.mpr ⟨rfl, fun _ h => absurd h List.not_mem_nil⟩)⟩) (b_X6_readChunks_93 m0 sh rr r ww so pl pn bm tg px fa hb n hr hso  v8 x sc qo _ hE hF)
  · replace hE := fif hE c76
    refine aw_iload dX6_readChunks_79 rfl ?_
    refine aw_bipush (v := 64) dX6_readChunks_81 (by decide) ?_
    refine aw_icmp_ge (tgt := 100) dX6_readChunks_83 (by decide) (fun c83 => ?_) (fun c83 => ?_)
    · replace hE := fit hE c83
      exact aw_lv _ (List.forall_mem_cons.mpr ⟨rfl, (List.forall_mem_cons.mpr ⟨rfl, (List.forall_mem_cons.mpr ⟨rfl, (List.forall_mem_cons.mpr ⟨rfl, (List.forall_mem_cons.mpr ⟨rfl, (List.forall_mem_cons.mpr ⟨rfl, (List.forall_mem_cons.mpr ⟨rfl, (List.forall_mem_cons.mpr ⟨rfl, fun _ h => absurd h List.not_mem_nil⟩)⟩)⟩)⟩)⟩)⟩)⟩)⟩) (b_X6_readChunks_100 m0 sh rr r ww so pl pn bm tg px fa hb n hr hso k21 hk21 v3 t0 v6 v7 v9 x sc qo _ hE hF)
    · replace hE := fif hE c83
      refine aw_iload dX6_readChunks_86 rfl ?_
      refine aw_iload dX6_readChunks_88 rfl ?_
      refine aw_icmp_ne (tgt := 100) dX6_readChunks_90 (by decide) (fun c90 => ?_) (fun c90 => ?_)
      · replace hE := fif hE c90
        exact aw_lv _ (List.forall_mem_cons.mpr ⟨rfl, (List.forall_mem_cons.mpr ⟨rfl, (List.forall_mem_cons.mpr ⟨rfl, (List.forall_mem_cons.mpr ⟨rfl, (List.forall_mem_cons.mpr ⟨rfl, (List.forall_mem_cons.mpr ⟨rfl, (List.forall_mem_cons.mpr ⟨rfl, (List.forall_mem_cons.mpr ⟨rfl, fun _ h => absurd h List.not_mem_nil⟩)⟩)⟩)⟩)⟩)⟩)⟩)⟩) (b_X6_readChunks_100 m0 sh rr r ww so pl pn bm tg px fa hb n hr hso k21 hk21 v3 t0 v6 v7 v9 x sc qo _ hE hF)
      · replace hE := fit hE c90
        exact aw_lv _ (List.forall_mem_cons.mpr ⟨rfl, (List.forall_mem_cons.mpr ⟨rfl, fun _ h => absurd h List.not_mem_nil⟩)⟩) (b_X6_readChunks_93 m0 sh rr r ww so pl pn bm tg px fa hb n hr hso  v8 x sc qo _ hE hF)
def F_X6_readChunks_66 (sb : A) (k21 : Int32 → Int32 → Int32 → Int32 → Ras → Src → Qoi → Out (Ras × Src × Qoi) Int32) (v3 : Int32) (v4 : Int32) (v6 : Int32) (v7 : Int32) (v8 : Int32) (v9 : Int32) (x : Ras) (sc : Src) (qo : Qoi) : Out (Ras × Src × Qoi) Int32 := F_X6_readChunks_67 sb k21 v3 v4 v6 v7 v8 v9 (1 : Int32) x sc qo
set_option maxHeartbeats 1000000 in
set_option maxRecDepth 100000 in
theorem b_X6_readChunks_66 (m0 : Mnt) (sh : Nat → Nat) (rr : Nat → Ras) (r : Nat) (ww : Nat → Row) (so : Nat) (pl : Pal) (pn : Pnm) (bm : Bmp) (tg : Tga) (px : Pcx) (fa : A) (hb : aH) (n : Nat) (hr : isR r) (hso : isW so) (k21 : Int32 → Int32 → Int32 → Int32 → Ras → Src → Qoi → Out (Ras × Src × Qoi) Int32) (hk21 : Q_X6_readChunks_21 m0 sh rr r ww so pl pn bm tg px fa hb n k21) : Q_X6_readChunks_66 m0 sh rr r ww so pl pn bm tg px fa hb n (F_X6_readChunks_66 (y_b (ww so)) k21) := by
  intro v3 v4 v6 v7 v8 v9 x sc qo res hE hF
  unfold F_X6_readChunks_66 at hE
  refine aw_iconst (v := 1) dX6_readChunks_66 (by decide) ?_
  exact aw_lv _ (List.forall_mem_cons.mpr ⟨rfl, (List.forall_mem_cons.mpr ⟨rfl, (List.forall_mem_cons.mpr ⟨rfl, (List.forall_mem_cons.mpr ⟨rfl, (List.forall_mem_cons.mpr ⟨rfl, (List.forall_mem_cons.mpr ⟨rfl, (List.forall_mem_cons.mpr ⟨rfl, (List.forall_mem_cons.mpr ⟨rfl, (List.forall_mem_cons.mpr ⟨rfl, fun _ h => absurd h List.not_mem_nil⟩)⟩)⟩)⟩)⟩)⟩)⟩)⟩)⟩) (b_X6_readChunks_67 m0 sh rr r ww so pl pn bm tg px fa hb n hr hso k21 hk21 v3 v4 v6 v7 v8 v9 (1 : Int32) x sc qo _ hE hF)
def F_X6_readChunks_21 (sb : A) (k21 : Int32 → Int32 → Int32 → Int32 → Ras → Src → Qoi → Out (Ras × Src × Qoi) Int32) (v3 : Int32) (v4 : Int32) (v6 : Int32) (v7 : Int32) (x : Ras) (sc : Src) (qo : Qoi) : Out (Ras × Src × Qoi) Int32 := if v6 ≤ v7 then (fok (v3 : Int32) (x, sc, qo)) else (fon (F_X8_next sc sb) (fun z35 s35 => if z35 < 192 then (F_X6_readChunks_66 sb k21 v3 v4 v6 v7 (sc_pos sc) z35 x s35 qo) else (if 254 ≤ z35 then (F_X6_readChunks_66 sb k21 v3 v4 v6 v7 (sc_pos sc) z35 x s35 qo) else (F_X6_readChunks_67 sb k21 v3 v4 v6 v7 (sc_pos sc) z35 ((z35 &&& 63) + 1) x s35 qo))) (fun E s35 => fex E (x, s35, qo)))
set_option maxHeartbeats 1000000 in
set_option maxRecDepth 100000 in
theorem b_X6_readChunks_21 (m0 : Mnt) (sh : Nat → Nat) (rr : Nat → Ras) (r : Nat) (ww : Nat → Row) (so : Nat) (pl : Pal) (pn : Pnm) (bm : Bmp) (tg : Tga) (px : Pcx) (fa : A) (hb : aH) (n : Nat) (hr : isR r) (hso : isW so) (k21 : Int32 → Int32 → Int32 → Int32 → Ras → Src → Qoi → Out (Ras × Src × Qoi) Int32) (hk21 : Q_X6_readChunks_21 m0 sh rr r ww so pl pn bm tg px fa hb n k21) : Q_X6_readChunks_21 m0 sh rr r ww so pl pn bm tg px fa hb n (F_X6_readChunks_21 (y_b (ww so)) k21) := by
  intro v3 v4 v6 v7 x sc qo res hE hF
  unfold F_X6_readChunks_21 at hE
  refine aw_iload dX6_readChunks_21 rfl ?_
  refine aw_iload dX6_readChunks_23 rfl ?_
  refine aw_icmp_ge (tgt := 161) dX6_readChunks_25 (by decide) (fun c25 => ?_) (fun c25 => ?_)
  · replace hE := fit hE c25
    refine aw_iload_n dX6_readChunks_161 rfl ?_
    exact aw_iret dX6_readChunks_162 rfl (Nat.zero_le _) (Nat.zero_le _) (Nat.zero_le _) (Nat.zero_le _) ⟨_, _, hE.symm, rfl, rfl, rfl⟩
  · replace hE := fif hE c25
    refine aw_aload_n dX6_readChunks_28 rfl ?_
    refine aw_getf (v := .int (sc_pos sc)) dX6_readChunks_29 flX6_25_7 at_src rfl ?_
    refine aw_istore (lv2 := [(8, _), (0, _), (1, _), (2, _), (3, _), (4, _), (6, _), (7, _)]) dX6_readChunks_32 (by decide) rfl ?_
    refine aw_aload_n dX6_readChunks_34 rfl ?_
    refine aw_callV dX6_readChunks_35 at_src cvX6_63 rfl (kF_X8_next m0 sh (va_up rr r x) ww so sc pl qo pn bm tg px fa hb _ hso  (fon_ne hE hF)) rfl (Nat.le_of_ble_eq_true rfl) (by decide) (by decide) (by decide) (by decide) (fun E h2 n2 hx => aw_out rfl (by decide) (by decide) (by obtain ⟨s35, e35, rfl, rfl⟩ := hx; exact ⟨_, (fon_ex e35 hE).symm, rfl, rfl⟩)) (fun r35 h35 n35 hp35 => ?_)
    obtain ⟨z35, s35, e35, rfl, rfl, rfl⟩ := hp35
    replace hE := fon_ok e35 hE
    refine aw_istore (lv2 := [(9, _), (8, _), (0, _), (1, _), (2, _), (3, _), (4, _), (6, _), (7, _)]) dX6_readChunks_38 (by decide) rfl ?_
    refine aw_iload dX6_readChunks_40 rfl ?_
    refine aw_sipush (v := 192) dX6_readChunks_42 (by decide) ?_
    refine aw_icmp_lt (tgt := 66) dX6_readChunks_45 (by decide) (fun c45 => ?_) (fun c45 => ?_)
    · replace hE := fit hE c45
      exact aw_lv _ (List.forall_mem_cons.mpr ⟨rfl, (List.forall_mem_cons.mpr ⟨rfl, (List.forall_mem_cons.mpr ⟨rfl, (List.forall_mem_cons.mpr ⟨rfl, (List.forall_mem_cons.mpr ⟨rfl, (List.forall_mem_cons.mpr ⟨rfl, (List.forall_mem_cons.mpr ⟨rfl, (List.forall_mem_cons.mpr ⟨rfl, (List.forall_mem_cons.mpr ⟨rfl, fun _ h => absurd h List.not_mem_nil⟩)⟩)⟩)⟩)⟩)⟩)⟩)⟩)⟩) (b_X6_readChunks_66 m0 sh rr r ww so pl pn bm tg px fa hb n hr hso k21 hk21 v3 v4 v6 v7 (sc_pos sc) z35 x s35 qo _ hE hF)
    · replace hE := fif hE c45
      refine aw_iload dX6_readChunks_48 rfl ?_
      refine aw_sipush (v := 254) dX6_readChunks_50 (by decide) ?_
      refine aw_icmp_ge (tgt := 66) dX6_readChunks_53 (by decide) (fun c53 => ?_) (fun c53 => ?_)
      · replace hE := fit hE c53
        exact aw_lv _ (List.forall_mem_cons.mpr ⟨rfl, (List.forall_mem_cons.mpr ⟨rfl, (List.forall_mem_cons.mpr ⟨rfl, (List.forall_mem_cons.mpr ⟨rfl, (List.forall_mem_cons.mpr ⟨rfl, (List.forall_mem_cons.mpr ⟨rfl, (List.forall_mem_cons.mpr ⟨rfl, (List.forall_mem_cons.mpr ⟨rfl, (List.forall_mem_cons.mpr ⟨rfl, fun _ h => absurd h List.not_mem_nil⟩)⟩)⟩)⟩)⟩)⟩)⟩)⟩)⟩) (b_X6_readChunks_66 m0 sh rr r ww so pl pn bm tg px fa hb n hr hso k21 hk21 v3 v4 v6 v7 (sc_pos sc) z35 x s35 qo _ hE hF)
      · replace hE := fif hE c53
        refine aw_iload dX6_readChunks_56 rfl ?_
        refine aw_bipush (v := 63) dX6_readChunks_58 (by decide) ?_
        refine aw_iand dX6_readChunks_60 ?_
        refine aw_iconst (v := 1) dX6_readChunks_61 (by decide) ?_
        refine aw_iadd dX6_readChunks_62 ?_
        refine aw_goto (tgt := 67) dX6_readChunks_63 (by decide) ?_
        exact aw_lv _ (List.forall_mem_cons.mpr ⟨rfl, (List.forall_mem_cons.mpr ⟨rfl, (List.forall_mem_cons.mpr ⟨rfl, (List.forall_mem_cons.mpr ⟨rfl, (List.forall_mem_cons.mpr ⟨rfl, (List.forall_mem_cons.mpr ⟨rfl, (List.forall_mem_cons.mpr ⟨rfl, (List.forall_mem_cons.mpr ⟨rfl, (List.forall_mem_cons.mpr ⟨rfl, fun _ h => absurd h List.not_mem_nil⟩)⟩)⟩)⟩)⟩)⟩)⟩)⟩)⟩) (b_X6_readChunks_67 m0 sh rr r ww so pl pn bm tg px fa hb n hr hso k21 hk21 v3 v4 v6 v7 (sc_pos sc) z35 ((z35 &&& 63) + 1) x s35 qo _ hE hF)
def F_X6_readChunks (x : Ras) (sc : Src) (sb : A) (qo : Qoi) : Out (Ras × Src × Qoi) Int32 := fon (F_X6_start qo) (fun z1 s1 => fon (F_X7_count x) (fun z13 s13 => lp (fun _ _ _ _ _ _ _ => fno) (F_X6_readChunks_21 sb) FU (0 : Int32) (-1 : Int32) z13 (0 : Int32) x sc s1) (fun _ _ => fno)) (fun _ _ => fno)
set_option maxHeartbeats 1000000 in
set_option maxRecDepth 100000 in
theorem kF_X6_readChunks (m0 : Mnt) (sh : Nat → Nat) (rr : Nat → Ras) (r : Nat) (x : Ras) (ww : Nat → Row) (so : Nat) (sc : Src) (pl : Pal) (qo : Qoi) (pn : Pnm) (bm : Bmp) (tg : Tga) (px : Pcx) (fa : A) (hb : aH) (n : Nat) (hr : isR r) (hso : isW so)  (hF : F_X6_readChunks x sc (y_b (ww so)) qo ≠ fno) : AM mX6_readChunks 5 [.ref 21, .ref 16, .ref r] (HC m0 sh (va_up rr r x) ww so sc pl qo pn bm tg px fa hb) n 1 6 0 0 (P_X6_readChunks m0 sh rr r ww so pl pn bm tg px fa hb n (F_X6_readChunks x sc (y_b (ww so)) qo)) (X_X6_readChunks m0 sh rr r ww so pl pn bm tg px fa hb n (F_X6_readChunks x sc (y_b (ww so)) qo)) := by
  generalize hE : F_X6_readChunks x sc (y_b (ww so)) qo = res at hF ⊢
  refine aw_of (by decide +kernel) rfl (Nat.le_of_ble_eq_true rfl) ?_
  unfold F_X6_readChunks at hE
  refine aw_aload_n dX6_readChunks_0 rfl ?_
  refine aw_callV dX6_readChunks_1 at_qoi cvX6_66 rfl (kF_X6_start m0 sh (va_up rr r x) ww so sc pl qo pn bm tg px fa hb _   (fon_ne hE hF)) rfl (Nat.le_of_ble_eq_true rfl) (by decide) (by decide) (by decide) (by decide) (fun _ _ _ hf => False.elim hf) (fun r1 h1 n1 hp1 => ?_)
  obtain ⟨z1, s1, e1, rfl, rfl, rfl⟩ := hp1
  replace hE := fon_ok e1 hE
  refine aw_iconst (v := 0) dX6_readChunks_4 (by decide) ?_
  refine aw_istore_n (lv2 := [(3, _), (0, _), (1, _), (2, _)]) dX6_readChunks_5 (by decide) rfl ?_
  refine aw_iconst (v := (-1)) dX6_readChunks_6 (by decide) ?_
  refine aw_istore (lv2 := [(4, _), (3, _), (0, _), (1, _), (2, _)]) dX6_readChunks_7 (by decide) rfl ?_
  refine aw_iconst (v := 1) dX6_readChunks_9 (by decide) ?_
  refine aw_istore (lv2 := [(5, _), (4, _), (3, _), (0, _), (1, _), (2, _)]) dX6_readChunks_10 (by decide) rfl ?_
  refine aw_aload_n dX6_readChunks_12 rfl ?_
  refine aw_callV dX6_readChunks_13 (at_ras hr) cvX6_69 rfl (kF_X7_count m0 sh rr r x ww so sc pl s1 pn bm tg px fa hb _ hr  (fon_ne hE hF)) rfl (Nat.le_of_ble_eq_true rfl) (by decide) (by decide) (by decide) (by decide) (fun _ _ _ hf => False.elim hf) (fun r13 h13 n13 hp13 => ?_)
  obtain ⟨z13, s13, e13, rfl, rfl, rfl⟩ := hp13
  replace hE := fon_ok e13 hE
  refine aw_istore (lv2 := [(6, _), (5, _), (4, _), (3, _), (0, _), (1, _), (2, _)]) dX6_readChunks_16 (by decide) rfl ?_
  refine aw_iconst (v := 0) dX6_readChunks_18 (by decide) ?_
  refine aw_istore (lv2 := [(7, _), (6, _), (5, _), (4, _), (3, _), (0, _), (1, _), (2, _)]) dX6_readChunks_19 (by decide) rfl ?_
  exact aw_lv _ (List.forall_mem_cons.mpr ⟨rfl, (List.forall_mem_cons.mpr ⟨rfl, (List.forall_mem_cons.mpr ⟨rfl, (List.forall_mem_cons.mpr ⟨rfl, (List.forall_mem_cons.mpr ⟨rfl, (List.forall_mem_cons.mpr ⟨rfl, (List.forall_mem_cons.mpr ⟨rfl, fun _ h => absurd h List.not_mem_nil⟩)⟩)⟩)⟩)⟩)⟩)⟩) (lp_ind (Q_X6_readChunks_21 m0 sh rr r ww so pl pn bm tg px fa hb n) (fun _ _ _ _ _ _ _ res hq hF => (hF hq.symm).elim) (fun k hk => b_X6_readChunks_21 m0 sh rr r ww so pl pn bm tg px fa hb n hr hso  k hk) FU (0 : Int32) (-1 : Int32) z13 (0 : Int32) x sc s1 _ hE hF)
def P_X9_readEntries (m0 : Mnt) (sh : Nat → Nat) (rr : Nat → Ras) (ww : Nat → Row) (so : Nat) (pl : Pal) (qo : Qoi) (pn : Pnm) (bm : Bmp) (px : Pcx) (fa : A) (hb : aH) (n : Nat) (res : Out (Src × Tga) Unit) : Option Value → aH → Nat → Prop := fun r1 h2 n2 => ∃ (a : Unit) (s : (Src × Tga)), res = fok a s ∧ r1 = none ∧ h2 = HC m0 sh rr ww so s.1 pl qo pn bm s.2 px fa hb ∧ n = n2
def X_X9_readEntries (m0 : Mnt) (sh : Nat → Nat) (rr : Nat → Ras) (ww : Nat → Row) (so : Nat) (pl : Pal) (qo : Qoi) (pn : Pnm) (bm : Bmp) (px : Pcx) (fa : A) (hb : aH) (n : Nat) (res : Out (Src × Tga) Unit) : String → aH → Nat → Prop := fun E h2 n2 => ∃ s : (Src × Tga), res = fex E s ∧ h2 = HC m0 sh rr ww so s.1 pl qo pn bm s.2 px fa hb ∧ n = n2
abbrev Q_X9_readEntries_2 (m0 : Mnt) (sh : Nat → Nat) (rr : Nat → Ras) (ww : Nat → Row) (so : Nat) (pl : Pal) (qo : Qoi) (pn : Pnm) (bm : Bmp) (px : Pcx) (fa : A) (hb : aH) (n : Nat) (k : Int32 → Src → Tga → Out (Src × Tga) Unit) : Prop := ∀ (v2 : Int32) (sc : Src) (tg : Tga) (res : Out (Src × Tga) Unit), k v2 sc tg = res → res ≠ fno → AW (fun _ _ => True) mX9_readEntries (rmD 5 1 6) 0 0 (P_X9_readEntries m0 sh rr ww so pl qo pn bm px fa hb n res) (X_X9_readEntries m0 sh rr ww so pl qo pn bm px fa hb n res) 0 0 2 [(0, .ref 26), (1, .ref 16), (2, .int v2)] [] (HC m0 sh rr ww so sc pl qo pn bm tg px fa hb) n
abbrev Q_X9_readEntries_44 (m0 : Mnt) (sh : Nat → Nat) (rr : Nat → Ras) (ww : Nat → Row) (so : Nat) (pl : Pal) (qo : Qoi) (pn : Pnm) (bm : Bmp) (px : Pcx) (fa : A) (hb : aH) (n : Nat) (k : Int32 → Src → Tga → Out (Src × Tga) Unit) : Prop := ∀ (v2 : Int32) (sc : Src) (tg : Tga) (res : Out (Src × Tga) Unit), k v2 sc tg = res → res ≠ fno → AW (fun _ _ => True) mX9_readEntries (rmD 5 1 6) 0 0 (P_X9_readEntries m0 sh rr ww so pl qo pn bm px fa hb n res) (X_X9_readEntries m0 sh rr ww so pl qo pn bm px fa hb n res) 0 0 44 [(0, .ref 26), (1, .ref 16), (2, .int v2)] [] (HC m0 sh rr ww so sc pl qo pn bm tg px fa hb) n
def F_X9_readEntries_44 (sb : A) (k2 : Int32 → Src → Tga → Out (Src × Tga) Unit) (v2 : Int32) (sc : Src) (tg : Tga) : Out (Src × Tga) Unit := k2 (v2 + 1) sc tg
set_option maxHeartbeats 1000000 in
set_option maxRecDepth 100000 in
theorem b_X9_readEntries_44 (m0 : Mnt) (sh : Nat → Nat) (rr : Nat → Ras) (ww : Nat → Row) (so : Nat) (pl : Pal) (qo : Qoi) (pn : Pnm) (bm : Bmp) (px : Pcx) (fa : A) (hb : aH) (n : Nat) (hso : isW so) (k2 : Int32 → Src → Tga → Out (Src × Tga) Unit) (hk2 : Q_X9_readEntries_2 m0 sh rr ww so pl qo pn bm px fa hb n k2) : Q_X9_readEntries_44 m0 sh rr ww so pl qo pn bm px fa hb n (F_X9_readEntries_44 (y_b (ww so)) k2) := by
  intro v2 sc tg res hE hF
  unfold F_X9_readEntries_44 at hE
  refine aw_iinc (v := (v2 + 1)) (lv2 := [(2, _), (0, _), (1, _)]) dX9_readEntries_44 rfl (incE (by decide)) (by decide) rfl ?_
  refine aw_goto (tgt := 2) dX9_readEntries_47 (by decide) ?_
  exact aw_lv _ (List.forall_mem_cons.mpr ⟨rfl, (List.forall_mem_cons.mpr ⟨rfl, (List.forall_mem_cons.mpr ⟨rfl, fun _ h => absurd h List.not_mem_nil⟩)⟩)⟩) (hk2 (v2 + 1) sc tg _ hE hF)
def F_X9_readEntries_2 (sb : A) (k2 : Int32 → Src → Tga → Out (Src × Tga) Unit) (v2 : Int32) (sc : Src) (tg : Tga) : Out (Src × Tga) Unit := if (tg_many tg) ≤ v2 then (fok () (sc, tg)) else (fon (F_X9_readColour (tg_deep tg) sc sb tg) (fun z16 s16 => if 256 ≤ ((tg_fe tg) + v2) then (F_X9_readEntries_44 sb k2 v2 s16 tg) else (if inb ((tg_fe tg) + v2) 256 then (F_X9_readEntries_44 sb k2 v2 s16 ((tg_f1 tg), (tg_f2 tg), (tg_f3 tg), (tg_map tg), (tg_type tg), (tg_fe tg), (tg_many tg), (tg_deep tg), (tg_bits tg), (tg_flags tg), (tg_ab tg), (tg_idx tg), (tg_packets tg), (tg_left tg), (tg_like tg), (upd (tg_ent tg) (Int32.toNatClampNeg ((tg_fe tg) + v2)) z16))) else fno)) (fun E s16 => fex E (s16, tg)))
set_option maxHeartbeats 1000000 in
set_option maxRecDepth 100000 in
theorem b_X9_readEntries_2 (m0 : Mnt) (sh : Nat → Nat) (rr : Nat → Ras) (ww : Nat → Row) (so : Nat) (pl : Pal) (qo : Qoi) (pn : Pnm) (bm : Bmp) (px : Pcx) (fa : A) (hb : aH) (n : Nat) (hso : isW so) (k2 : Int32 → Src → Tga → Out (Src × Tga) Unit) (hk2 : Q_X9_readEntries_2 m0 sh rr ww so pl qo pn bm px fa hb n k2) : Q_X9_readEntries_2 m0 sh rr ww so pl qo pn bm px fa hb n (F_X9_readEntries_2 (y_b (ww so)) k2) := by
  intro v2 sc tg res hE hF
  unfold F_X9_readEntries_2 at hE
  refine aw_iload_n dX9_readEntries_2 rfl ?_
  refine aw_aload_n dX9_readEntries_3 rfl ?_
  refine aw_getf (v := .int (tg_many tg)) dX9_readEntries_4 flX9_94_8 at_tga rfl ?_
  refine aw_icmp_ge (tgt := 50) dX9_readEntries_7 (by decide) (fun c7 => ?_) (fun c7 => ?_)
  · replace hE := fit hE c7
    exact aw_vret dX9_readEntries_50 rfl (Nat.zero_le _) (Nat.zero_le _) (Nat.zero_le _) (Nat.zero_le _) ⟨_, _, hE.symm, rfl, rfl, rfl⟩
  · replace hE := fif hE c7
    refine aw_aload_n dX9_readEntries_10 rfl ?_
    refine aw_aload_n dX9_readEntries_11 rfl ?_
    refine aw_aload_n dX9_readEntries_12 rfl ?_
    refine aw_getf (v := .int (tg_deep tg)) dX9_readEntries_13 flX9_97_8 at_tga rfl ?_
    refine aw_callV dX9_readEntries_16 at_tga cvX9_114 rfl (kF_X9_readColour m0 sh rr ww so sc pl qo pn bm tg px fa hb _ hso (tg_deep tg) (fon_ne hE hF)) rfl (Nat.le_of_ble_eq_true rfl) (by decide) (by decide) (by decide) (by decide) (fun E h2 n2 hx => aw_out rfl (by decide) (by decide) (by obtain ⟨s16, e16, rfl, rfl⟩ := hx; exact ⟨_, (fon_ex e16 hE).symm, rfl, rfl⟩)) (fun r16 h16 n16 hp16 => ?_)
    obtain ⟨z16, s16, e16, rfl, rfl, rfl⟩ := hp16
    replace hE := fon_ok e16 hE
    refine aw_istore_n (lv2 := [(3, _), (0, _), (1, _), (2, _)]) dX9_readEntries_19 (by decide) rfl ?_
    refine aw_aload_n dX9_readEntries_20 rfl ?_
    refine aw_getf (v := .int (tg_fe tg)) dX9_readEntries_21 flX9_91_8 at_tga rfl ?_
    refine aw_iload_n dX9_readEntries_24 rfl ?_
    refine aw_iadd dX9_readEntries_25 ?_
    refine aw_sipush (v := 256) dX9_readEntries_26 (by decide) ?_
    refine aw_icmp_ge (tgt := 44) dX9_readEntries_29 (by decide) (fun c29 => ?_) (fun c29 => ?_)
    · replace hE := fit hE c29
      exact aw_lv _ (List.forall_mem_cons.mpr ⟨rfl, (List.forall_mem_cons.mpr ⟨rfl, (List.forall_mem_cons.mpr ⟨rfl, fun _ h => absurd h List.not_mem_nil⟩)⟩)⟩) (b_X9_readEntries_44 m0 sh rr ww so pl qo pn bm px fa hb n hso k2 hk2 v2 s16 tg _ hE hF)
    · replace hE := fif hE c29
      refine aw_aload_n dX9_readEntries_32 rfl ?_
      refine aw_getf (v := .ref 27) dX9_readEntries_33 flX9_9_8 at_tga rfl ?_
      refine aw_aload_n dX9_readEntries_36 rfl ?_
      refine aw_getf (v := .int (tg_fe tg)) dX9_readEntries_37 flX9_91_8 at_tga rfl ?_
      refine aw_iload_n dX9_readEntries_40 rfl ?_
      refine aw_iadd dX9_readEntries_41 ?_
      refine aw_iload_n dX9_readEntries_42 rfl ?_
      obtain ⟨g43, hE⟩ := fgd hE hF
      refine aw_iast (f := (tg_ent tg)) dX9_readEntries_43 at_tgaent (vp_in_iff.mpr g43) ?_
      refine aw_eqh (h2 := HC m0 sh rr ww so s16 pl qo pn bm ((tg_f1 tg), (tg_f2 tg), (tg_f3 tg), (tg_map tg), (tg_type tg), (tg_fe tg), (tg_many tg), (tg_deep tg), (tg_bits tg), (tg_flags tg), (tg_ab tg), (tg_idx tg), (tg_packets tg), (tg_left tg), (tg_like tg), (upd (tg_ent tg) (Int32.toNatClampNeg ((tg_fe tg) + v2)) z16)) px fa hb) up_tgaent ?_
      exact aw_lv _ (List.forall_mem_cons.mpr ⟨rfl, (List.forall_mem_cons.mpr ⟨rfl, (List.forall_mem_cons.mpr ⟨rfl, fun _ h => absurd h List.not_mem_nil⟩)⟩)⟩) (b_X9_readEntries_44 m0 sh rr ww so pl qo pn bm px fa hb n hso k2 hk2 v2 s16 ((tg_f1 tg), (tg_f2 tg), (tg_f3 tg), (tg_map tg), (tg_type tg), (tg_fe tg), (tg_many tg), (tg_deep tg), (tg_bits tg), (tg_flags tg), (tg_ab tg), (tg_idx tg), (tg_packets tg), (tg_left tg), (tg_like tg), (upd (tg_ent tg) (Int32.toNatClampNeg ((tg_fe tg) + v2)) z16)) _ hE hF)
def F_X9_readEntries (sc : Src) (sb : A) (tg : Tga) : Out (Src × Tga) Unit := lp (fun _ _ _ => fno) (F_X9_readEntries_2 sb) FU (0 : Int32) sc tg
set_option maxHeartbeats 1000000 in
set_option maxRecDepth 100000 in
theorem kF_X9_readEntries (m0 : Mnt) (sh : Nat → Nat) (rr : Nat → Ras) (ww : Nat → Row) (so : Nat) (sc : Src) (pl : Pal) (qo : Qoi) (pn : Pnm) (bm : Bmp) (tg : Tga) (px : Pcx) (fa : A) (hb : aH) (n : Nat) (hso : isW so)  (hF : F_X9_readEntries sc (y_b (ww so)) tg ≠ fno) : AM mX9_readEntries 5 [.ref 26, .ref 16] (HC m0 sh rr ww so sc pl qo pn bm tg px fa hb) n 1 6 0 0 (P_X9_readEntries m0 sh rr ww so pl qo pn bm px fa hb n (F_X9_readEntries sc (y_b (ww so)) tg)) (X_X9_readEntries m0 sh rr ww so pl qo pn bm px fa hb n (F_X9_readEntries sc (y_b (ww so)) tg)) := by
  generalize hE : F_X9_readEntries sc (y_b (ww so)) tg = res at hF ⊢
  refine aw_of (by decide +kernel) rfl (Nat.le_of_ble_eq_true rfl) ?_
  unfold F_X9_readEntries at hE
  refine aw_iconst (v := 0) dX9_readEntries_0 (by decide) ?_
  refine aw_istore_n (lv2 := [(2, _), (0, _), (1, _)]) dX9_readEntries_1 (by decide) rfl ?_
  exact aw_lv _ (List.forall_mem_cons.mpr ⟨rfl, (List.forall_mem_cons.mpr ⟨rfl, (List.forall_mem_cons.mpr ⟨rfl, fun _ h => absurd h List.not_mem_nil⟩)⟩)⟩) (lp_ind (Q_X9_readEntries_2 m0 sh rr ww so pl qo pn bm px fa hb n) (fun _ _ _ res hq hF => (hF hq.symm).elim) (fun k hk => b_X9_readEntries_2 m0 sh rr ww so pl qo pn bm px fa hb n hso  k hk) FU (0 : Int32) sc tg _ hE hF)
