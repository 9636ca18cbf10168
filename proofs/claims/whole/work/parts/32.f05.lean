def P_X4_readVersion (m0 : Mnt) (sh : Nat → Nat) (rr : Nat → Ras) (ww : Nat → Row) (so : Nat) (pl : Pal) (qo : Qoi) (pn : Pnm) (bm : Bmp) (tg : Tga) (fa : A) (hb : aH) (n : Nat) (res : Out (Src × Pcx) Unit) : Option Value → aH → Nat → Prop := fun r1 h2 n2 => ∃ (a : Unit) (s : (Src × Pcx)), res = fok a s ∧ r1 = none ∧ h2 = HC m0 sh rr ww so s.1 pl qo pn bm tg s.2 fa hb ∧ n = n2
def X_X4_readVersion (m0 : Mnt) (sh : Nat → Nat) (rr : Nat → Ras) (ww : Nat → Row) (so : Nat) (pl : Pal) (qo : Qoi) (pn : Pnm) (bm : Bmp) (tg : Tga) (fa : A) (hb : aH) (n : Nat) (res : Out (Src × Pcx) Unit) : String → aH → Nat → Prop := fun E h2 n2 => ∃ s : (Src × Pcx), res = fex E s ∧ h2 = HC m0 sh rr ww so s.1 pl qo pn bm tg s.2 fa hb ∧ n = n2
abbrev Q_X4_readVersion_29 (m0 : Mnt) (sh : Nat → Nat) (rr : Nat → Ras) (ww : Nat → Row) (so : Nat) (pl : Pal) (qo : Qoi) (pn : Pnm) (bm : Bmp) (tg : Tga) (fa : A) (hb : aH) (n : Nat) (k : Int32 → Src → Pcx → Out (Src × Pcx) Unit) : Prop := ∀ (v2 : Int32) (sc : Src) (px : Pcx) (res : Out (Src × Pcx) Unit), k v2 sc px = res → res ≠ fno → AW (fun _ _ => True) mX4_readVersion (rmD 4 1 6) 0 0 (P_X4_readVersion m0 sh rr ww so pl qo pn bm tg fa hb n res) (X_X4_readVersion m0 sh rr ww so pl qo pn bm tg fa hb n res) 0 0 29 [(1, .ref 16), (2, .int v2)] [] (HC m0 sh rr ww so sc pl qo pn bm tg px fa hb) n
def F_X4_readVersion_29 (sb : A)  (v2 : Int32) (sc : Src) (px : Pcx) : Out (Src × Pcx) Unit := fon (F_X8_refuse 2 v2 sc) (fun _ _ => fno) (fun E s32 => fex E (s32, px))
set_option maxHeartbeats 1000000 in
set_option maxRecDepth 100000 in
theorem b_X4_readVersion_29 (m0 : Mnt) (sh : Nat → Nat) (rr : Nat → Ras) (ww : Nat → Row) (so : Nat) (pl : Pal) (qo : Qoi) (pn : Pnm) (bm : Bmp) (tg : Tga) (fa : A) (hb : aH) (n : Nat) (hso : isW so)  : Q_X4_readVersion_29 m0 sh rr ww so pl qo pn bm tg fa hb n (F_X4_readVersion_29 (y_b (ww so))) := by
  intro v2 sc px res hE hF
  unfold F_X4_readVersion_29 at hE
  refine aw_aload_n dX4_readVersion_29 rfl ?_
  refine aw_iconst (v := 2) dX4_readVersion_30 (by decide) ?_
  refine aw_iload_n dX4_readVersion_31 rfl ?_
  refine aw_callV dX4_readVersion_32 at_src cvX4_100 rfl (kF_X8_refuse m0 sh rr ww so sc pl qo pn bm tg px fa hb _  2 v2 (fon_ne hE hF)) rfl (Nat.le_of_ble_eq_true rfl) (by decide) (by decide) (by decide) (by decide) (fun E h2 n2 hx => aw_out rfl (by decide) (by decide) (by obtain ⟨s32, e32, rfl, rfl⟩ := hx; exact ⟨_, (fon_ex e32 hE).symm, rfl, rfl⟩)) (fun r32 h32 n32 hp32 => ?_)
  obtain ⟨z32, s32, e32, rfl, rfl, rfl⟩ := hp32
  exact (hF (fon_ok e32 hE).symm).elim
def F_X4_readVersion (sc : Src) (sb : A) (px : Pcx) : Out (Src × Pcx) Unit := fon (F_X8_next sc sb) (fun z7 s7 => if 5 < z7 then (F_X4_readVersion_29 sb (sc_pos sc) s7 ((px_f1 px), (px_f2 px), (px_f3 px), z7, (px_bits px), (px_per px), (px_planes px), (px_step px), (px_col px))) else (if z7 = 1 then (F_X4_readVersion_29 sb (sc_pos sc) s7 ((px_f1 px), (px_f2 px), (px_f3 px), z7, (px_bits px), (px_per px), (px_planes px), (px_step px), (px_col px))) else (fok () (s7, ((px_f1 px), (px_f2 px), (px_f3 px), z7, (px_bits px), (px_per px), (px_planes px), (px_step px), (px_col px)))))) (fun E s7 => fex E (s7, px))
set_option maxHeartbeats 1000000 in
set_option maxRecDepth 100000 in
theorem kF_X4_readVersion (m0 : Mnt) (sh : Nat → Nat) (rr : Nat → Ras) (ww : Nat → Row) (so : Nat) (sc : Src) (pl : Pal) (qo : Qoi) (pn : Pnm) (bm : Bmp) (tg : Tga) (px : Pcx) (fa : A) (hb : aH) (n : Nat) (hso : isW so)  (hF : F_X4_readVersion sc (y_b (ww so)) px ≠ fno) : AM mX4_readVersion 4 [.ref 28, .ref 16] (HC m0 sh rr ww so sc pl qo pn bm tg px fa hb) n 1 6 0 0 (P_X4_readVersion m0 sh rr ww so pl qo pn bm tg fa hb n (F_X4_readVersion sc (y_b (ww so)) px)) (X_X4_readVersion m0 sh rr ww so pl qo pn bm tg fa hb n (F_X4_readVersion sc (y_b (ww so)) px)) := by
  generalize hE : F_X4_readVersion sc (y_b (ww so)) px = res at hF ⊢
  refine aw_of (by decide +kernel) rfl (Nat.le_of_ble_eq_true rfl) ?_
  unfold F_X4_readVersion at hE
  refine aw_aload_n dX4_readVersion_0 rfl ?_
  refine aw_getf (v := .int (sc_pos sc)) dX4_readVersion_1 flX4_90_7 at_src rfl ?_
  refine aw_istore_n (lv2 := [(2, _), (0, _), (1, _)]) dX4_readVersion_4 (by decide) rfl ?_
  refine aw_aload_n dX4_readVersion_5 rfl ?_
  refine aw_aload_n dX4_readVersion_6 rfl ?_
  refine aw_callV dX4_readVersion_7 at_src cvX4_93 rfl (kF_X8_next m0 sh rr ww so sc pl qo pn bm tg px fa hb _ hso  (fon_ne hE hF)) rfl (Nat.le_of_ble_eq_true rfl) (by decide) (by decide) (by decide) (by decide) (fun E h2 n2 hx => aw_out rfl (by decide) (by decide) (by obtain ⟨s7, e7, rfl, rfl⟩ := hx; exact ⟨_, (fon_ex e7 hE).symm, rfl, rfl⟩)) (fun r7 h7 n7 hp7 => ?_)
  obtain ⟨z7, s7, e7, rfl, rfl, rfl⟩ := hp7
  replace hE := fon_ok e7 hE
  refine aw_putf dX4_readVersion_10 ptX4_97_3 at_pcx (Nat.le_of_ble_eq_true rfl) ⟨rfl, rfl⟩ ?_
  refine aw_eqh (h2 := HC m0 sh rr ww so s7 pl qo pn bm tg ((px_f1 px), (px_f2 px), (px_f3 px), z7, (px_bits px), (px_per px), (px_planes px), (px_step px), (px_col px)) fa hb) up_pcx ?_
  refine aw_aload_n dX4_readVersion_13 rfl ?_
  refine aw_getf (v := .int z7) dX4_readVersion_14 flX4_97_3 at_pcx rfl ?_
  refine aw_iconst (v := 5) dX4_readVersion_17 (by decide) ?_
  refine aw_icmp_gt (tgt := 29) dX4_readVersion_18 (by decide) (fun c18 => ?_) (fun c18 => ?_)
  · replace hE := fit hE c18
    exact aw_lv _ (List.forall_mem_cons.mpr ⟨rfl, (List.forall_mem_cons.mpr ⟨rfl, fun _ h => absurd h List.not_mem_nil⟩)⟩) (b_X4_readVersion_29 m0 sh rr ww so pl qo pn bm tg fa hb n hso  (sc_pos sc) s7 ((px_f1 px), (px_f2 px), (px_f3 px), z7, (px_bits px), (px_per px), (px_planes px), (px_step px), (px_col px)) _ hE hF)
  · replace hE := fif hE c18
    refine aw_aload_n dX4_readVersion_21 rfl ?_
    refine aw_getf (v := .int z7) dX4_readVersion_22 flX4_97_3 at_pcx rfl ?_
    refine aw_iconst (v := 1) dX4_readVersion_25 (by decide) ?_
    refine aw_icmp_ne (tgt := 35) dX4_readVersion_26 (by decide) (fun c26 => ?_) (fun c26 => ?_)
    · replace hE := fif hE c26
      exact aw_vret dX4_readVersion_35 rfl (Nat.zero_le _) (Nat.zero_le _) (Nat.zero_le _) (Nat.zero_le _) ⟨_, _, hE.symm, rfl, rfl, rfl⟩
    · replace hE := fit hE c26
      exact aw_lv _ (List.forall_mem_cons.mpr ⟨rfl, (List.forall_mem_cons.mpr ⟨rfl, fun _ h => absurd h List.not_mem_nil⟩)⟩) (b_X4_readVersion_29 m0 sh rr ww so pl qo pn bm tg fa hb n hso  (sc_pos sc) s7 ((px_f1 px), (px_f2 px), (px_f3 px), z7, (px_bits px), (px_per px), (px_planes px), (px_step px), (px_col px)) _ hE hF)
def P_X4_readBits (m0 : Mnt) (sh : Nat → Nat) (rr : Nat → Ras) (ww : Nat → Row) (so : Nat) (pl : Pal) (qo : Qoi) (pn : Pnm) (bm : Bmp) (tg : Tga) (fa : A) (hb : aH) (n : Nat) (res : Out (Src × Pcx) Unit) : Option Value → aH → Nat → Prop := fun r1 h2 n2 => ∃ (a : Unit) (s : (Src × Pcx)), res = fok a s ∧ r1 = none ∧ h2 = HC m0 sh rr ww so s.1 pl qo pn bm tg s.2 fa hb ∧ n = n2
def X_X4_readBits (m0 : Mnt) (sh : Nat → Nat) (rr : Nat → Ras) (ww : Nat → Row) (so : Nat) (pl : Pal) (qo : Qoi) (pn : Pnm) (bm : Bmp) (tg : Tga) (fa : A) (hb : aH) (n : Nat) (res : Out (Src × Pcx) Unit) : String → aH → Nat → Prop := fun E h2 n2 => ∃ s : (Src × Pcx), res = fex E s ∧ h2 = HC m0 sh rr ww so s.1 pl qo pn bm tg s.2 fa hb ∧ n = n2
abbrev Q_X4_readBits_53 (m0 : Mnt) (sh : Nat → Nat) (rr : Nat → Ras) (ww : Nat → Row) (so : Nat) (pl : Pal) (qo : Qoi) (pn : Pnm) (bm : Bmp) (tg : Tga) (fa : A) (hb : aH) (n : Nat) (k : Src → Pcx → Out (Src × Pcx) Unit) : Prop := ∀ (sc : Src) (px : Pcx) (res : Out (Src × Pcx) Unit), k sc px = res → res ≠ fno → AW (fun _ _ => True) mX4_readBits (rmD 4 1 6) 0 0 (P_X4_readBits m0 sh rr ww so pl qo pn bm tg fa hb n res) (X_X4_readBits m0 sh rr ww so pl qo pn bm tg fa hb n res) 0 0 53 [(0, .ref 28)] [] (HC m0 sh rr ww so sc pl qo pn bm tg px fa hb) n
def F_X4_readBits_53 (sb : A)  (sc : Src) (px : Pcx) : Out (Src × Pcx) Unit := if ¬ (px_bits px) = 0 then (fok () (sc, ((px_f1 px), (px_f2 px), (px_f3 px), (px_ver px), (px_bits px), (8 / (px_bits px)), (px_planes px), (px_step px), (px_col px)))) else fno
set_option maxHeartbeats 1000000 in
set_option maxRecDepth 100000 in
theorem b_X4_readBits_53 (m0 : Mnt) (sh : Nat → Nat) (rr : Nat → Ras) (ww : Nat → Row) (so : Nat) (pl : Pal) (qo : Qoi) (pn : Pnm) (bm : Bmp) (tg : Tga) (fa : A) (hb : aH) (n : Nat) (hso : isW so)  : Q_X4_readBits_53 m0 sh rr ww so pl qo pn bm tg fa hb n (F_X4_readBits_53 (y_b (ww so))) := by
  intro sc px res hE hF
  unfold F_X4_readBits_53 at hE
  refine aw_aload_n dX4_readBits_53 rfl ?_
  refine aw_bipush (v := 8) dX4_readBits_54 (by decide) ?_
  refine aw_aload_n dX4_readBits_56 rfl ?_
  refine aw_getf (v := .int (px_bits px)) dX4_readBits_57 flX4_65_3 at_pcx rfl ?_
  obtain ⟨g60, hE⟩ := fgd hE hF
  refine aw_idiv dX4_readBits_60 g60 ?_
  refine aw_putf dX4_readBits_61 ptX4_104_3 at_pcx (Nat.le_of_ble_eq_true rfl) ⟨rfl, rfl⟩ ?_
  refine aw_eqh (h2 := HC m0 sh rr ww so sc pl qo pn bm tg ((px_f1 px), (px_f2 px), (px_f3 px), (px_ver px), (px_bits px), (8 / (px_bits px)), (px_planes px), (px_step px), (px_col px)) fa hb) up_pcx ?_
  exact aw_vret dX4_readBits_64 rfl (Nat.zero_le _) (Nat.zero_le _) (Nat.zero_le _) (Nat.zero_le _) ⟨_, _, hE.symm, rfl, rfl, rfl⟩
def F_X4_readBits (sc : Src) (sb : A) (px : Pcx) : Out (Src × Pcx) Unit := fon (F_X8_next sc sb) (fun z7 s7 => if z7 = 1 then (F_X4_readBits_53 sb s7 ((px_f1 px), (px_f2 px), (px_f3 px), (px_ver px), z7, (px_per px), (px_planes px), (px_step px), (px_col px))) else (if z7 = 2 then (F_X4_readBits_53 sb s7 ((px_f1 px), (px_f2 px), (px_f3 px), (px_ver px), z7, (px_per px), (px_planes px), (px_step px), (px_col px))) else (if z7 = 4 then (F_X4_readBits_53 sb s7 ((px_f1 px), (px_f2 px), (px_f3 px), (px_ver px), z7, (px_per px), (px_planes px), (px_step px), (px_col px))) else (if z7 = 8 then (F_X4_readBits_53 sb s7 ((px_f1 px), (px_f2 px), (px_f3 px), (px_ver px), z7, (px_per px), (px_planes px), (px_step px), (px_col px))) else (fon (F_X8_refuse 2 (sc_pos sc) s7) (fun _ _ => fno) (fun E s49 => fex E (s49, ((px_f1 px), (px_f2 px), (px_f3 px), (px_ver px), z7, (px_per px), (px_planes px), (px_step px), (px_col px))))))))) (fun E s7 => fex E (s7, px))
set_option maxHeartbeats 1000000 in
set_option maxRecDepth 100000 in
theorem kF_X4_readBits (m0 : Mnt) (sh : Nat → Nat) (rr : Nat → Ras) (ww : Nat → Row) (so : Nat) (sc : Src) (pl : Pal) (qo : Qoi) (pn : Pnm) (bm : Bmp) (tg : Tga) (px : Pcx) (fa : A) (hb : aH) (n : Nat) (hso : isW so)  (hF : F_X4_readBits sc (y_b (ww so)) px ≠ fno) : AM mX4_readBits 4 [.ref 28, .ref 16] (HC m0 sh rr ww so sc pl qo pn bm tg px fa hb) n 1 6 0 0 (P_X4_readBits m0 sh rr ww so pl qo pn bm tg fa hb n (F_X4_readBits sc (y_b (ww so)) px)) (X_X4_readBits m0 sh rr ww so pl qo pn bm tg fa hb n (F_X4_readBits sc (y_b (ww so)) px)) := by
  generalize hE : F_X4_readBits sc (y_b (ww so)) px = res at hF ⊢
  refine aw_of (by decide +kernel) rfl (Nat.le_of_ble_eq_true rfl) ?_
  unfold F_X4_readBits at hE
  refine aw_aload_n dX4_readBits_0 rfl ?_
  refine aw_getf (v := .int (sc_pos sc)) dX4_readBits_1 flX4_90_7 at_src rfl ?_
  refine aw_istore_n (lv2 := [(2, _), (0, _), (1, _)]) dX4_readBits_4 (by decide) rfl ?_
  refine aw_aload_n dX4_readBits_5 rfl ?_
  refine aw_aload_n dX4_readBits_6 rfl ?_
  refine aw_callV dX4_readBits_7 at_src cvX4_93 rfl (kF_X8_next m0 sh rr ww so sc pl qo pn bm tg px fa hb _ hso  (fon_ne hE hF)) rfl (Nat.le_of_ble_eq_true rfl) (by decide) (by decide) (by decide) (by decide) (fun E h2 n2 hx => aw_out rfl (by decide) (by decide) (by obtain ⟨s7, e7, rfl, rfl⟩ := hx; exact ⟨_, (fon_ex e7 hE).symm, rfl, rfl⟩)) (fun r7 h7 n7 hp7 => ?_)
  obtain ⟨z7, s7, e7, rfl, rfl, rfl⟩ := hp7
  replace hE := fon_ok e7 hE
  refine aw_putf dX4_readBits_10 ptX4_65_3 at_pcx (Nat.le_of_ble_eq_true rfl) ⟨rfl, rfl⟩ ?_
  refine aw_eqh (h2 := HC m0 sh rr ww so s7 pl qo pn bm tg ((px_f1 px), (px_f2 px), (px_f3 px), (px_ver px), z7, (px_per px), (px_planes px), (px_step px), (px_col px)) fa hb) up_pcx ?_
  refine aw_aload_n dX4_readBits_13 rfl ?_
  refine aw_getf (v := .int z7) dX4_readBits_14 flX4_65_3 at_pcx rfl ?_
  refine aw_iconst (v := 1) dX4_readBits_17 (by decide) ?_
  refine aw_icmp_eq (tgt := 53) dX4_readBits_18 (by decide) (fun c18 => ?_) (fun c18 => ?_)
  · replace hE := fit hE c18
    exact aw_lv _ (List.forall_mem_cons.mpr ⟨rfl, fun _ h => absurd h List.not_mem_nil⟩) (b_X4_readBits_53 m0 sh rr ww so pl qo pn bm tg fa hb n hso  s7 ((px_f1 px), (px_f2 px), (px_f3 px), (px_ver px), z7, (px_per px), (px_planes px), (px_step px), (px_col px)) _ hE hF)
  · replace hE := fif hE c18
    refine aw_aload_n dX4_readBits_21 rfl ?_
    refine aw_getf (v := .int z7) dX4_readBits_22 flX4_65_3 at_pcx rfl ?_
    refine aw_iconst (v := 2) dX4_readBits_25 (by decide) ?_
    refine aw_icmp_eq (tgt := 53) dX4_readBits_26 (by decide) (fun c26 => ?_) (fun c26 => ?_)
    · replace hE := fit hE c26
      exact aw_lv _ (List.forall_mem_cons.mpr ⟨rfl, fun _ h => absurd h List.not_mem_nil⟩) (b_X4_readBits_53 m0 sh rr ww so pl qo pn bm tg fa hb n hso  s7 ((px_f1 px), (px_f2 px), (px_f3 px), (px_ver px), z7, (px_per px), (px_planes px), (px_step px), (px_col px)) _ hE hF)
    · replace hE := fif hE c26
      refine aw_aload_n dX4_readBits_29 rfl ?_
      refine aw_getf (v := .int z7) dX4_readBits_30 flX4_65_3 at_pcx rfl ?_
      refine aw_iconst (v := 4) dX4_readBits_33 (by decide) ?_
      refine aw_icmp_eq (tgt := 53) dX4_readBits_34 (by decide) (fun c34 => ?_) (fun c34 => ?_)
      · replace hE := fit hE c34
        exact aw_lv _ (List.forall_mem_cons.mpr ⟨rfl, fun _ h => absurd h List.not_mem_nil⟩) (b_X4_readBits_53 m0 sh rr ww so pl qo pn bm tg fa hb n hso  s7 ((px_f1 px), (px_f2 px), (px_f3 px), (px_ver px), z7, (px_per px), (px_planes px), (px_step px), (px_col px)) _ hE hF)
      · replace hE := fif hE c34
        refine aw_aload_n dX4_readBits_37 rfl ?_
        refine aw_getf (v := .int z7) dX4_readBits_38 flX4_65_3 at_pcx rfl ?_
        refine aw_bipush (v := 8) dX4_readBits_41 (by decide) ?_
        refine aw_icmp_eq (tgt := 53) dX4_readBits_43 (by decide) (fun c43 => ?_) (fun c43 => ?_)
        · replace hE := fit hE c43
          exact aw_lv _ (List.forall_mem_cons.mpr ⟨rfl, fun _ h => absurd h List.not_mem_nil⟩) (b_X4_readBits_53 m0 sh rr ww so pl qo pn bm tg fa hb n hso  s7 ((px_f1 px), (px_f2 px), (px_f3 px), (px_ver px), z7, (px_per px), (px_planes px), (px_step px), (px_col px)) _ hE hF)
        · replace hE := fif hE c43
          refine aw_aload_n dX4_readBits_46 rfl ?_
          refine aw_iconst (v := 2) dX4_readBits_47 (by decide) ?_
          refine aw_iload_n dX4_readBits_48 rfl ?_
          refine aw_callV dX4_readBits_49 at_src cvX4_100 rfl (kF_X8_refuse m0 sh rr ww so s7 pl qo pn bm tg ((px_f1 px), (px_f2 px), (px_f3 px), (px_ver px), z7, (px_per px), (px_planes px), (px_step px), (px_col px)) fa hb _  2 (sc_pos sc) (fon_ne hE hF)) rfl (Nat.le_of_ble_eq_true rfl) (by decide) (by decide) (by decide) (by decide) (fun E h2 n2 hx => aw_out rfl (by decide) (by decide) (by obtain ⟨s49, e49, rfl, rfl⟩ := hx; exact ⟨_, (fon_ex e49 hE).symm, rfl, rfl⟩)) (fun r49 h49 n49 hp49 => ?_)
          obtain ⟨z49, s49, e49, rfl, rfl, rfl⟩ := hp49
          exact (hF (fon_ok e49 hE).symm).elim
def P_X4_readSize (m0 : Mnt) (sh : Nat → Nat) (rr : Nat → Ras) (r : Nat) (ww : Nat → Row) (so : Nat) (pl : Pal) (qo : Qoi) (pn : Pnm) (bm : Bmp) (tg : Tga) (px : Pcx) (fa : A) (hb : aH) (n : Nat) (res : Out (Ras × Src) Unit) : Option Value → aH → Nat → Prop := fun r1 h2 n2 => ∃ (a : Unit) (s : (Ras × Src)), res = fok a s ∧ r1 = none ∧ h2 = HC m0 sh (va_up rr r s.1) ww so s.2 pl qo pn bm tg px fa hb ∧ n = n2
def X_X4_readSize (m0 : Mnt) (sh : Nat → Nat) (rr : Nat → Ras) (r : Nat) (ww : Nat → Row) (so : Nat) (pl : Pal) (qo : Qoi) (pn : Pnm) (bm : Bmp) (tg : Tga) (px : Pcx) (fa : A) (hb : aH) (n : Nat) (res : Out (Ras × Src) Unit) : String → aH → Nat → Prop := fun E h2 n2 => ∃ s : (Ras × Src), res = fex E s ∧ h2 = HC m0 sh (va_up rr r s.1) ww so s.2 pl qo pn bm tg px fa hb ∧ n = n2
def F_X4_readSize (x : Ras) (sc : Src) (sb : A) : Out (Ras × Src) Unit := fon (F_X8_low2 sc sb) (fun z1 s1 => fon (F_X8_low2 s1 sb) (fun z6 s6 => fon (F_X8_low2 s6 sb) (fun z17 s17 => if z1 ≤ z17 then (fon (F_X8_low2 s17 sb) (fun z42 s42 => if z6 ≤ z42 then (fon (F_X8_lay ((((z17 - z1) + 1)).toInt64) ((((z42 - z6) + 1)).toInt64) (sc_pos s17) x s42) (fun z78 s78 => fok () (s78.1, s78.2)) (fun E s78 => fex E (s78.1, s78.2))) else (fon (F_X8_refuse 2 (sc_pos s17) s42) (fun _ _ => fno) (fun E s57 => fex E (x, s57)))) (fun E s42 => fex E (x, s42))) else (fon (F_X8_refuse 2 (sc_pos s6) s17) (fun _ _ => fno) (fun E s32 => fex E (x, s32)))) (fun E s17 => fex E (x, s17))) (fun E s6 => fex E (x, s6))) (fun E s1 => fex E (x, s1))
set_option maxHeartbeats 1000000 in
set_option maxRecDepth 100000 in
theorem kF_X4_readSize (m0 : Mnt) (sh : Nat → Nat) (rr : Nat → Ras) (r : Nat) (x : Ras) (ww : Nat → Row) (so : Nat) (sc : Src) (pl : Pal) (qo : Qoi) (pn : Pnm) (bm : Bmp) (tg : Tga) (px : Pcx) (fa : A) (hb : aH) (n : Nat) (hr : isR r) (hso : isW so)  (hF : F_X4_readSize x sc (y_b (ww so)) ≠ fno) : AM mX4_readSize 5 [.ref 16, .ref r] (HC m0 sh (va_up rr r x) ww so sc pl qo pn bm tg px fa hb) n 1 6 0 0 (P_X4_readSize m0 sh rr r ww so pl qo pn bm tg px fa hb n (F_X4_readSize x sc (y_b (ww so)))) (X_X4_readSize m0 sh rr r ww so pl qo pn bm tg px fa hb n (F_X4_readSize x sc (y_b (ww so)))) := by
  generalize hE : F_X4_readSize x sc (y_b (ww so)) = res at hF ⊢
  refine aw_of (by decide +kernel) rfl (Nat.le_of_ble_eq_true rfl) ?_
  unfold F_X4_readSize at hE
  refine aw_aload_n dX4_readSize_0 rfl ?_
  refine aw_callV dX4_readSize_1 at_src cvX4_107 rfl (kF_X8_low2 m0 sh (va_up rr r x) ww so sc pl qo pn bm tg px fa hb _ hso  (fon_ne hE hF)) rfl (Nat.le_of_ble_eq_true rfl) (by decide) (by decide) (by decide) (by decide) (fun E h2 n2 hx => aw_out rfl (by decide) (by decide) (by obtain ⟨s1, e1, rfl, rfl⟩ := hx; exact ⟨_, (fon_ex e1 hE).symm, rfl, rfl⟩)) (fun r1 h1 n1 hp1 => ?_)
  obtain ⟨z1, s1, e1, rfl, rfl, rfl⟩ := hp1
  replace hE := fon_ok e1 hE
  refine aw_istore_n (lv2 := [(2, _), (0, _), (1, _)]) dX4_readSize_4 (by decide) rfl ?_
  refine aw_aload_n dX4_readSize_5 rfl ?_
  refine aw_callV dX4_readSize_6 at_src cvX4_107 rfl (kF_X8_low2 m0 sh (va_up rr r x) ww so s1 pl qo pn bm tg px fa hb _ hso  (fon_ne hE hF)) rfl (Nat.le_of_ble_eq_true rfl) (by decide) (by decide) (by decide) (by decide) (fun E h2 n2 hx => aw_out rfl (by decide) (by decide) (by obtain ⟨s6, e6, rfl, rfl⟩ := hx; exact ⟨_, (fon_ex e6 hE).symm, rfl, rfl⟩)) (fun r6 h6 n6 hp6 => ?_)
  obtain ⟨z6, s6, e6, rfl, rfl, rfl⟩ := hp6
  replace hE := fon_ok e6 hE
  refine aw_istore_n (lv2 := [(3, _), (2, _), (0, _), (1, _)]) dX4_readSize_9 (by decide) rfl ?_
  refine aw_aload_n dX4_readSize_10 rfl ?_
  refine aw_getf (v := .int (sc_pos s6)) dX4_readSize_11 flX4_90_7 at_src rfl ?_
  refine aw_istore (lv2 := [(4, _), (3, _), (2, _), (0, _), (1, _)]) dX4_readSize_14 (by decide) rfl ?_
  refine aw_aload_n dX4_readSize_16 rfl ?_
  refine aw_callV dX4_readSize_17 at_src cvX4_107 rfl (kF_X8_low2 m0 sh (va_up rr r x) ww so s6 pl qo pn bm tg px fa hb _ hso  (fon_ne hE hF)) rfl (Nat.le_of_ble_eq_true rfl) (by decide) (by decide) (by decide) (by decide) (fun E h2 n2 hx => aw_out rfl (by decide) (by decide) (by obtain ⟨s17, e17, rfl, rfl⟩ := hx; exact ⟨_, (fon_ex e17 hE).symm, rfl, rfl⟩)) (fun r17 h17 n17 hp17 => ?_)
  obtain ⟨z17, s17, e17, rfl, rfl, rfl⟩ := hp17
  replace hE := fon_ok e17 hE
  refine aw_istore (lv2 := [(5, _), (4, _), (3, _), (2, _), (0, _), (1, _)]) dX4_readSize_20 (by decide) rfl ?_
  refine aw_iload dX4_readSize_22 rfl ?_
  refine aw_iload_n dX4_readSize_24 rfl ?_
  refine aw_icmp_ge (tgt := 35) dX4_readSize_25 (by decide) (fun c25 => ?_) (fun c25 => ?_)
  · replace hE := fit hE c25
    refine aw_aload_n dX4_readSize_35 rfl ?_
    refine aw_getf (v := .int (sc_pos s17)) dX4_readSize_36 flX4_90_7 at_src rfl ?_
    refine aw_istore (lv2 := [(4, _), (5, _), (3, _), (2, _), (0, _), (1, _)]) dX4_readSize_39 (by decide) rfl ?_
    refine aw_aload_n dX4_readSize_41 rfl ?_
    refine aw_callV dX4_readSize_42 at_src cvX4_107 rfl (kF_X8_low2 m0 sh (va_up rr r x) ww so s17 pl qo pn bm tg px fa hb _ hso  (fon_ne hE hF)) rfl (Nat.le_of_ble_eq_true rfl) (by decide) (by decide) (by decide) (by decide) (fun E h2 n2 hx => aw_out rfl (by decide) (by decide) (by obtain ⟨s42, e42, rfl, rfl⟩ := hx; exact ⟨_, (fon_ex e42 hE).symm, rfl, rfl⟩)) (fun r42 h42 n42 hp42 => ?_)
    obtain ⟨z42, s42, e42, rfl, rfl, rfl⟩ := hp42
    replace hE := fon_ok e42 hE
    refine aw_istore (lv2 := [(6, _), (4, _), (5, _), (3, _), (2, _), (0, _), (1, _)]) dX4_readSize_45 (by decide) rfl ?_
    refine aw_iload dX4_readSize_47 rfl ?_
    refine aw_iload_n dX4_readSize_49 rfl ?_
    refine aw_icmp_ge (tgt := 60) dX4_readSize_50 (by decide) (fun c50 => ?_) (fun c50 => ?_)
    · replace hE := fit hE c50
      refine aw_aload_n dX4_readSize_60 rfl ?_
      refine aw_aload_n dX4_readSize_61 rfl ?_
      refine aw_iload dX4_readSize_62 rfl ?_
      refine aw_iload_n dX4_readSize_64 rfl ?_
      refine aw_isub dX4_readSize_65 ?_
      refine aw_iconst (v := 1) dX4_readSize_66 (by decide) ?_
      refine aw_iadd dX4_readSize_67 ?_
      refine aw_i2l dX4_readSize_68 ?_
      refine aw_iload dX4_readSize_69 rfl ?_
      refine aw_iload_n dX4_readSize_71 rfl ?_
      refine aw_isub dX4_readSize_72 ?_
      refine aw_iconst (v := 1) dX4_readSize_73 (by decide) ?_
      refine aw_iadd dX4_readSize_74 ?_
      refine aw_i2l dX4_readSize_75 ?_
      refine aw_iload dX4_readSize_76 rfl ?_
      refine aw_callV dX4_readSize_78 at_src cvX4_110 rfl (kF_X8_lay m0 sh rr r x ww so s42 pl qo pn bm tg px fa hb _ hr ((((z17 - z1) + 1)).toInt64) ((((z42 - z6) + 1)).toInt64) (sc_pos s17) (fon_ne hE hF)) rfl (Nat.le_of_ble_eq_true rfl) (by decide) (by decide) (by decide) (by decide) (fun E h2 n2 hx => aw_out rfl (by decide) (by decide) (by obtain ⟨s78, e78, rfl, rfl⟩ := hx; exact ⟨_, (fon_ex e78 hE).symm, rfl, rfl⟩)) (fun r78 h78 n78 hp78 => ?_)
      obtain ⟨z78, s78, e78, rfl, rfl, rfl⟩ := hp78
      replace hE := fon_ok e78 hE
      exact aw_vret dX4_readSize_81 rfl (Nat.zero_le _) (Nat.zero_le _) (Nat.zero_le _) (Nat.zero_le _) ⟨_, _, hE.symm, rfl, rfl, rfl⟩
    · replace hE := fif hE c50
      refine aw_aload_n dX4_readSize_53 rfl ?_
      refine aw_iconst (v := 2) dX4_readSize_54 (by decide) ?_
      refine aw_iload dX4_readSize_55 rfl ?_
      refine aw_callV dX4_readSize_57 at_src cvX4_100 rfl (kF_X8_refuse m0 sh (va_up rr r x) ww so s42 pl qo pn bm tg px fa hb _  2 (sc_pos s17) (fon_ne hE hF)) rfl (Nat.le_of_ble_eq_true rfl) (by decide) (by decide) (by decide) (by decide) (fun E h2 n2 hx => aw_out rfl (by decide) (by decide) (by obtain ⟨s57, e57, rfl, rfl⟩ := hx; exact ⟨_, (fon_ex e57 hE).symm, rfl, rfl⟩)) (fun r57 h57 n57 hp57 => ?_)
      obtain ⟨z57, s57, e57, rfl, rfl, rfl⟩ := hp57
      exact (hF (fon_ok e57 hE).symm).elim
  · replace hE := fif hE c25
    refine aw_aload_n dX4_readSize_28 rfl ?_
    refine aw_iconst (v := 2) dX4_readSize_29 (by decide) ?_
    refine aw_iload dX4_readSize_30 rfl ?_
    refine aw_callV dX4_readSize_32 at_src cvX4_100 rfl (kF_X8_refuse m0 sh (va_up rr r x) ww so s17 pl qo pn bm tg px fa hb _  2 (sc_pos s6) (fon_ne hE hF)) rfl (Nat.le_of_ble_eq_true rfl) (by decide) (by decide) (by decide) (by decide) (fun E h2 n2 hx => aw_out rfl (by decide) (by decide) (by obtain ⟨s32, e32, rfl, rfl⟩ := hx; exact ⟨_, (fon_ex e32 hE).symm, rfl, rfl⟩)) (fun r32 h32 n32 hp32 => ?_)
    obtain ⟨z32, s32, e32, rfl, rfl, rfl⟩ := hp32
    exact (hF (fon_ok e32 hE).symm).elim
def P_X4_readColours (m0 : Mnt) (sh : Nat → Nat) (rr : Nat → Ras) (ww : Nat → Row) (so : Nat) (pl : Pal) (qo : Qoi) (pn : Pnm) (bm : Bmp) (tg : Tga) (fa : A) (hb : aH) (n : Nat) (res : Out (Src × Pcx) Unit) : Option Value → aH → Nat → Prop := fun r1 h2 n2 => ∃ (a : Unit) (s : (Src × Pcx)), res = fok a s ∧ r1 = none ∧ h2 = HC m0 sh rr ww so s.1 pl qo pn bm tg s.2 fa hb ∧ n = n2
def X_X4_readColours (m0 : Mnt) (sh : Nat → Nat) (rr : Nat → Ras) (ww : Nat → Row) (so : Nat) (pl : Pal) (qo : Qoi) (pn : Pnm) (bm : Bmp) (tg : Tga) (fa : A) (hb : aH) (n : Nat) (res : Out (Src × Pcx) Unit) : String → aH → Nat → Prop := fun E h2 n2 => ∃ s : (Src × Pcx), res = fex E s ∧ h2 = HC m0 sh rr ww so s.1 pl qo pn bm tg s.2 fa hb ∧ n = n2
abbrev Q_X4_readColours_2 (m0 : Mnt) (sh : Nat → Nat) (rr : Nat → Ras) (ww : Nat → Row) (so : Nat) (pl : Pal) (qo : Qoi) (pn : Pnm) (bm : Bmp) (tg : Tga) (fa : A) (hb : aH) (n : Nat) (k : Int32 → Int32 → Src → Pcx → Out (Src × Pcx) Unit) : Prop := ∀ (v2 : Int32) (v3 : Int32) (sc : Src) (px : Pcx) (res : Out (Src × Pcx) Unit), k v2 v3 sc px = res → res ≠ fno → AW (fun _ _ => True) mX4_readColours (rmD 4 1 6) 0 0 (P_X4_readColours m0 sh rr ww so pl qo pn bm tg fa hb n res) (X_X4_readColours m0 sh rr ww so pl qo pn bm tg fa hb n res) 0 0 2 [(0, .ref 28), (1, .ref 16), (2, .int v2), (3, .int v3)] [] (HC m0 sh rr ww so sc pl qo pn bm tg px fa hb) n
def F_X4_readColours_2 (sb : A) (k2 : Int32 → Int32 → Src → Pcx → Out (Src × Pcx) Unit) (v2 : Int32) (v3 : Int32) (sc : Src) (px : Pcx) : Out (Src × Pcx) Unit := if v2 ≤ v3 then (fok () (sc, px)) else (if 256 ≤ v3 then (fok () (sc, px)) else (fon (F_X8_next sc sb) (fun z15 s15 => fon (F_X8_next s15 sb) (fun z21 s21 => fon (F_X8_next s21 sb) (fun z36 s36 => if inb v3 256 then (k2 v2 (v3 + 1) s36 ((px_f1 px), (px_f2 px), (px_f3 px), (px_ver px), (px_bits px), (px_per px), (px_planes px), (px_step px), (upd (px_col px) (Int32.toNatClampNeg v3) (F_X10_pixelOf z15 z21 z36 255)))) else fno) (fun E s36 => fex E (s36, px))) (fun E s21 => fex E (s21, px))) (fun E s15 => fex E (s15, px))))
set_option maxHeartbeats 1000000 in
set_option maxRecDepth 100000 in
theorem b_X4_readColours_2 (m0 : Mnt) (sh : Nat → Nat) (rr : Nat → Ras) (ww : Nat → Row) (so : Nat) (pl : Pal) (qo : Qoi) (pn : Pnm) (bm : Bmp) (tg : Tga) (fa : A) (hb : aH) (n : Nat) (hso : isW so) (k2 : Int32 → Int32 → Src → Pcx → Out (Src × Pcx) Unit) (hk2 : Q_X4_readColours_2 m0 sh rr ww so pl qo pn bm tg fa hb n k2) : Q_X4_readColours_2 m0 sh rr ww so pl qo pn bm tg fa hb n (F_X4_readColours_2 (y_b (ww so)) k2) := by
  intro v2 v3 sc px res hE hF
  unfold F_X4_readColours_2 at hE
  refine aw_iload_n dX4_readColours_2 rfl ?_
  refine aw_iload_n dX4_readColours_3 rfl ?_
  refine aw_icmp_ge (tgt := 52) dX4_readColours_4 (by decide) (fun c4 => ?_) (fun c4 => ?_)
  · replace hE := fit hE c4
    exact aw_vret dX4_readColours_52 rfl (Nat.zero_le _) (Nat.zero_le _) (Nat.zero_le _) (Nat.zero_le _) ⟨_, _, hE.symm, rfl, rfl, rfl⟩
  · replace hE := fif hE c4
    refine aw_iload_n dX4_readColours_7 rfl ?_
    refine aw_sipush (v := 256) dX4_readColours_8 (by decide) ?_
    refine aw_icmp_ge (tgt := 52) dX4_readColours_11 (by decide) (fun c11 => ?_) (fun c11 => ?_)
    · replace hE := fit hE c11
      exact aw_vret dX4_readColours_52 rfl (Nat.zero_le _) (Nat.zero_le _) (Nat.zero_le _) (Nat.zero_le _) ⟨_, _, hE.symm, rfl, rfl, rfl⟩
    · replace hE := fif hE c11
      refine aw_aload_n dX4_readColours_14 rfl ?_
      refine aw_callV dX4_readColours_15 at_src cvX4_93 rfl (kF_X8_next m0 sh rr ww so sc pl qo pn bm tg px fa hb _ hso  (fon_ne hE hF)) rfl (Nat.le_of_ble_eq_true rfl) (by decide) (by decide) (by decide) (by decide) (fun E h2 n2 hx => aw_out rfl (by decide) (by decide) (by obtain ⟨s15, e15, rfl, rfl⟩ := hx; exact ⟨_, (fon_ex e15 hE).symm, rfl, rfl⟩)) (fun r15 h15 n15 hp15 => ?_)
      obtain ⟨z15, s15, e15, rfl, rfl, rfl⟩ := hp15
      replace hE := fon_ok e15 hE
      refine aw_istore (lv2 := [(4, _), (0, _), (1, _), (2, _), (3, _)]) dX4_readColours_18 (by decide) rfl ?_
      refine aw_aload_n dX4_readColours_20 rfl ?_
      refine aw_callV dX4_readColours_21 at_src cvX4_93 rfl (kF_X8_next m0 sh rr ww so s15 pl qo pn bm tg px fa hb _ hso  (fon_ne hE hF)) rfl (Nat.le_of_ble_eq_true rfl) (by decide) (by decide) (by decide) (by decide) (fun E h2 n2 hx => aw_out rfl (by decide) (by decide) (by obtain ⟨s21, e21, rfl, rfl⟩ := hx; exact ⟨_, (fon_ex e21 hE).symm, rfl, rfl⟩)) (fun r21 h21 n21 hp21 => ?_)
      obtain ⟨z21, s21, e21, rfl, rfl, rfl⟩ := hp21
      replace hE := fon_ok e21 hE
      refine aw_istore (lv2 := [(5, _), (4, _), (0, _), (1, _), (2, _), (3, _)]) dX4_readColours_24 (by decide) rfl ?_
      refine aw_aload_n dX4_readColours_26 rfl ?_
      refine aw_getf (v := .ref 29) dX4_readColours_27 flX4_9_3 at_pcx rfl ?_
      refine aw_iload_n dX4_readColours_30 rfl ?_
      refine aw_iload dX4_readColours_31 rfl ?_
      refine aw_iload dX4_readColours_33 rfl ?_
      refine aw_aload_n dX4_readColours_35 rfl ?_
      refine aw_callV dX4_readColours_36 at_src cvX4_93 rfl (kF_X8_next m0 sh rr ww so s21 pl qo pn bm tg px fa hb _ hso  (fon_ne hE hF)) rfl (Nat.le_of_ble_eq_true rfl) (by decide) (by decide) (by decide) (by decide) (fun E h2 n2 hx => aw_out rfl (by decide) (by decide) (by obtain ⟨s36, e36, rfl, rfl⟩ := hx; exact ⟨_, (fon_ex e36 hE).symm, rfl, rfl⟩)) (fun r36 h36 n36 hp36 => ?_)
      obtain ⟨z36, s36, e36, rfl, rfl, rfl⟩ := hp36
      replace hE := fon_ok e36 hE
      refine aw_sipush (v := 255) dX4_readColours_39 (by decide) ?_
      refine aw_callSN dX4_readColours_42  csX4_114 rfl (kF_X10_pixelOf _ _ z15 z21 z36 255) rfl (Nat.le_of_ble_eq_true rfl) (by decide) (by decide) (by decide) (by decide)  (fun r42 h42 n42 hp42 => ?_)
      obtain ⟨rfl, rfl, rfl⟩ := hp42
      obtain ⟨g45, hE⟩ := fgd hE hF
      refine aw_iast (f := (px_col px)) dX4_readColours_45 at_pcxcol (vp_in_iff.mpr g45) ?_
      refine aw_eqh (h2 := HC m0 sh rr ww so s36 pl qo pn bm tg ((px_f1 px), (px_f2 px), (px_f3 px), (px_ver px), (px_bits px), (px_per px), (px_planes px), (px_step px), (upd (px_col px) (Int32.toNatClampNeg v3) (F_X10_pixelOf z15 z21 z36 255))) fa hb) up_pcxcol ?_
      refine aw_iinc (v := (v3 + 1)) (lv2 := [(3, _), (5, _), (4, _), (0, _), (1, _), (2, _)]) dX4_readColours_46 rfl (incE (by decide)) (by decide) rfl ?_
      refine aw_goto (tgt := 2) dX4_readColours_49 (by decide) ?_
      exact aw_lv _ (List.forall_mem_cons.mpr ⟨rfl, (List.forall_mem_cons.mpr ⟨rfl, (List.forall_mem_cons.mpr ⟨rfl, (List.forall_mem_cons.mpr ⟨rfl, fun _ h => absurd h List.not_mem_nil⟩)⟩)⟩)⟩) (hk2 v2 (v3 + 1) s36 ((px_f1 px), (px_f2 px), (px_f3 px), (px_ver px), (px_bits px), (px_per px), (px_planes px), (px_step px), (upd (px_col px) (Int32.toNatClampNeg v3) (F_X10_pixelOf z15 z21 z36 255))) _ hE hF)
def F_X4_readColours (a2 : Int32) (sc : Src) (sb : A) (px : Pcx) : Out (Src × Pcx) Unit := lp (fun _ _ _ _ => fno) (F_X4_readColours_2 sb) FU a2 (0 : Int32) sc px
set_option maxHeartbeats 1000000 in
set_option maxRecDepth 100000 in
theorem kF_X4_readColours (m0 : Mnt) (sh : Nat → Nat) (rr : Nat → Ras) (ww : Nat → Row) (so : Nat) (sc : Src) (pl : Pal) (qo : Qoi) (pn : Pnm) (bm : Bmp) (tg : Tga) (px : Pcx) (fa : A) (hb : aH) (n : Nat) (hso : isW so) (a2 : Int32) (hF : F_X4_readColours a2 sc (y_b (ww so)) px ≠ fno) : AM mX4_readColours 4 [.ref 28, .ref 16, .int a2] (HC m0 sh rr ww so sc pl qo pn bm tg px fa hb) n 1 6 0 0 (P_X4_readColours m0 sh rr ww so pl qo pn bm tg fa hb n (F_X4_readColours a2 sc (y_b (ww so)) px)) (X_X4_readColours m0 sh rr ww so pl qo pn bm tg fa hb n (F_X4_readColours a2 sc (y_b (ww so)) px)) := by
  generalize hE : F_X4_readColours a2 sc (y_b (ww so)) px = res at hF ⊢
  refine aw_of (by decide +kernel) rfl (Nat.le_of_ble_eq_true rfl) ?_
  unfold F_X4_readColours at hE
  refine aw_iconst (v := 0) dX4_readColours_0 (by decide) ?_
  refine aw_istore_n (lv2 := [(3, _), (0, _), (1, _), (2, _)]) dX4_readColours_1 (by decide) rfl ?_
  exact aw_lv _ (List.forall_mem_cons.mpr ⟨rfl, (List.forall_mem_cons.mpr ⟨rfl, (List.forall_mem_cons.mpr ⟨rfl, (List.forall_mem_cons.mpr ⟨rfl, fun _ h => absurd h List.not_mem_nil⟩)⟩)⟩)⟩) (lp_ind (Q_X4_readColours_2 m0 sh rr ww so pl qo pn bm tg fa hb n) (fun _ _ _ _ res hq hF => (hF hq.symm).elim) (fun k hk => b_X4_readColours_2 m0 sh rr ww so pl qo pn bm tg fa hb n hso  k hk) FU a2 (0 : Int32) sc px _ hE hF)
def P_X4_readPlanes (m0 : Mnt) (sh : Nat → Nat) (rr : Nat → Ras) (ww : Nat → Row) (so : Nat) (pl : Pal) (qo : Qoi) (pn : Pnm) (bm : Bmp) (tg : Tga) (fa : A) (hb : aH) (n : Nat) (res : Out (Src × Pcx) Unit) : Option Value → aH → Nat → Prop := fun r1 h2 n2 => ∃ (a : Unit) (s : (Src × Pcx)), res = fok a s ∧ r1 = none ∧ h2 = HC m0 sh rr ww so s.1 pl qo pn bm tg s.2 fa hb ∧ n = n2
def X_X4_readPlanes (m0 : Mnt) (sh : Nat → Nat) (rr : Nat → Ras) (ww : Nat → Row) (so : Nat) (pl : Pal) (qo : Qoi) (pn : Pnm) (bm : Bmp) (tg : Tga) (fa : A) (hb : aH) (n : Nat) (res : Out (Src × Pcx) Unit) : String → aH → Nat → Prop := fun E h2 n2 => ∃ s : (Src × Pcx), res = fex E s ∧ h2 = HC m0 sh rr ww so s.1 pl qo pn bm tg s.2 fa hb ∧ n = n2
abbrev Q_X4_readPlanes_26 (m0 : Mnt) (sh : Nat → Nat) (rr : Nat → Ras) (ww : Nat → Row) (so : Nat) (pl : Pal) (qo : Qoi) (pn : Pnm) (bm : Bmp) (tg : Tga) (fa : A) (hb : aH) (n : Nat) (k : Int32 → Int32 → Src → Pcx → Out (Src × Pcx) Unit) : Prop := ∀ (v2 : Int32) (t0 : Int32) (sc : Src) (px : Pcx) (res : Out (Src × Pcx) Unit), k v2 t0 sc px = res → res ≠ fno → AW (fun _ _ => True) mX4_readPlanes (rmD 4 1 6) 0 0 (P_X4_readPlanes m0 sh rr ww so pl qo pn bm tg fa hb n res) (X_X4_readPlanes m0 sh rr ww so pl qo pn bm tg fa hb n res) 0 0 26 [(0, .ref 28), (1, .ref 16), (2, .int v2)] [.int t0] (HC m0 sh rr ww so sc pl qo pn bm tg px fa hb) n
abbrev Q_X4_readPlanes_55 (m0 : Mnt) (sh : Nat → Nat) (rr : Nat → Ras) (ww : Nat → Row) (so : Nat) (pl : Pal) (qo : Qoi) (pn : Pnm) (bm : Bmp) (tg : Tga) (fa : A) (hb : aH) (n : Nat) (k : Int32 → Src → Pcx → Out (Src × Pcx) Unit) : Prop := ∀ (v2 : Int32) (sc : Src) (px : Pcx) (res : Out (Src × Pcx) Unit), k v2 sc px = res → res ≠ fno → AW (fun _ _ => True) mX4_readPlanes (rmD 4 1 6) 0 0 (P_X4_readPlanes m0 sh rr ww so pl qo pn bm tg fa hb n res) (X_X4_readPlanes m0 sh rr ww so pl qo pn bm tg fa hb n res) 0 0 55 [(1, .ref 16), (2, .int v2)] [] (HC m0 sh rr ww so sc pl qo pn bm tg px fa hb) n
abbrev Q_X4_readPlanes_56 (m0 : Mnt) (sh : Nat → Nat) (rr : Nat → Ras) (ww : Nat → Row) (so : Nat) (pl : Pal) (qo : Qoi) (pn : Pnm) (bm : Bmp) (tg : Tga) (fa : A) (hb : aH) (n : Nat) (k : Int32 → Int32 → Src → Pcx → Out (Src × Pcx) Unit) : Prop := ∀ (v2 : Int32) (t0 : Int32) (sc : Src) (px : Pcx) (res : Out (Src × Pcx) Unit), k v2 t0 sc px = res → res ≠ fno → AW (fun _ _ => True) mX4_readPlanes (rmD 4 1 6) 0 0 (P_X4_readPlanes m0 sh rr ww so pl qo pn bm tg fa hb n res) (X_X4_readPlanes m0 sh rr ww so pl qo pn bm tg fa hb n res) 0 0 56 [(1, .ref 16), (2, .int v2)] [.int t0] (HC m0 sh rr ww so sc pl qo pn bm tg px fa hb) n
abbrev Q_X4_readPlanes_85 (m0 : Mnt) (sh : Nat → Nat) (rr : Nat → Ras) (ww : Nat → Row) (so : Nat) (pl : Pal) (qo : Qoi) (pn : Pnm) (bm : Bmp) (tg : Tga) (fa : A) (hb : aH) (n : Nat) (k : Int32 → Src → Pcx → Out (Src × Pcx) Unit) : Prop := ∀ (v2 : Int32) (sc : Src) (px : Pcx) (res : Out (Src × Pcx) Unit), k v2 sc px = res → res ≠ fno → AW (fun _ _ => True) mX4_readPlanes (rmD 4 1 6) 0 0 (P_X4_readPlanes m0 sh rr ww so pl qo pn bm tg fa hb n res) (X_X4_readPlanes m0 sh rr ww so pl qo pn bm tg fa hb n res) 0 0 85 [(0, .ref 28), (1, .ref 16), (2, .int v2)] [] (HC m0 sh rr ww so sc pl qo pn bm tg px fa hb) n
abbrev Q_X4_readPlanes_97 (m0 : Mnt) (sh : Nat → Nat) (rr : Nat → Ras) (ww : Nat → Row) (so : Nat) (pl : Pal) (qo : Qoi) (pn : Pnm) (bm : Bmp) (tg : Tga) (fa : A) (hb : aH) (n : Nat) (k : Int32 → Src → Pcx → Out (Src × Pcx) Unit) : Prop := ∀ (v2 : Int32) (sc : Src) (px : Pcx) (res : Out (Src × Pcx) Unit), k v2 sc px = res → res ≠ fno → AW (fun _ _ => True) mX4_readPlanes (rmD 4 1 6) 0 0 (P_X4_readPlanes m0 sh rr ww so pl qo pn bm tg fa hb n res) (X_X4_readPlanes m0 sh rr ww so pl qo pn bm tg fa hb n res) 0 0 97 [(1, .ref 16), (2, .int v2)] [] (HC m0 sh rr ww so sc pl qo pn bm tg px fa hb) n
abbrev Q_X4_readPlanes_98 (m0 : Mnt) (sh : Nat → Nat) (rr : Nat → Ras) (ww : Nat → Row) (so : Nat) (pl : Pal) (qo : Qoi) (pn : Pnm) (bm : Bmp) (tg : Tga) (fa : A) (hb : aH) (n : Nat) (k : Int32 → Int32 → Src → Pcx → Out (Src × Pcx) Unit) : Prop := ∀ (v2 : Int32) (t0 : Int32) (sc : Src) (px : Pcx) (res : Out (Src × Pcx) Unit), k v2 t0 sc px = res → res ≠ fno → AW (fun _ _ => True) mX4_readPlanes (rmD 4 1 6) 0 0 (P_X4_readPlanes m0 sh rr ww so pl qo pn bm tg fa hb n res) (X_X4_readPlanes m0 sh rr ww so pl qo pn bm tg fa hb n res) 0 0 98 [(1, .ref 16), (2, .int v2)] [.int t0] (HC m0 sh rr ww so sc pl qo pn bm tg px fa hb) n
abbrev Q_X4_readPlanes_99 (m0 : Mnt) (sh : Nat → Nat) (rr : Nat → Ras) (ww : Nat → Row) (so : Nat) (pl : Pal) (qo : Qoi) (pn : Pnm) (bm : Bmp) (tg : Tga) (fa : A) (hb : aH) (n : Nat) (k : Int32 → Int32 → Src → Pcx → Out (Src × Pcx) Unit) : Prop := ∀ (v2 : Int32) (v3 : Int32) (sc : Src) (px : Pcx) (res : Out (Src × Pcx) Unit), k v2 v3 sc px = res → res ≠ fno → AW (fun _ _ => True) mX4_readPlanes (rmD 4 1 6) 0 0 (P_X4_readPlanes m0 sh rr ww so pl qo pn bm tg fa hb n res) (X_X4_readPlanes m0 sh rr ww so pl qo pn bm tg fa hb n res) 0 0 99 [(1, .ref 16), (2, .int v2), (3, .int v3)] [] (HC m0 sh rr ww so sc pl qo pn bm tg px fa hb) n
def F_X4_readPlanes_99 (sb : A)  (v2 : Int32) (v3 : Int32) (sc : Src) (px : Pcx) : Out (Src × Pcx) Unit := if v3 = 0 then (fon (F_X8_refuse 2 v2 sc) (fun _ _ => fno) (fun E s106 => fex E (s106, px))) else (fok () (sc, px))
set_option maxHeartbeats 1000000 in
set_option maxRecDepth 100000 in
theorem b_X4_readPlanes_99 (m0 : Mnt) (sh : Nat → Nat) (rr : Nat → Ras) (ww : Nat → Row) (so : Nat) (pl : Pal) (qo : Qoi) (pn : Pnm) (bm : Bmp) (tg : Tga) (fa : A) (hb : aH) (n : Nat) (hso : isW so)  : Q_X4_readPlanes_99 m0 sh rr ww so pl qo pn bm tg fa hb n (F_X4_readPlanes_99 (y_b (ww so))) := by
  intro v2 v3 sc px res hE hF
  unfold F_X4_readPlanes_99 at hE
  refine aw_iload_n dX4_readPlanes_99 rfl ?_
  refine aw_if_ne (tgt := 109) dX4_readPlanes_100 (by decide) (fun c100 => ?_) (fun c100 => ?_)
  · replace hE := fif hE c100
    exact aw_vret dX4_readPlanes_109 rfl (Nat.zero_le _) (Nat.zero_le _) (Nat.zero_le _) (Nat.zero_le _) ⟨_, _, hE.symm, rfl, rfl, rfl⟩
  · replace hE := fit hE c100
    refine aw_aload_n dX4_readPlanes_103 rfl ?_
    refine aw_iconst (v := 2) dX4_readPlanes_104 (by decide) ?_
    refine aw_iload_n dX4_readPlanes_105 rfl ?_
    refine aw_callV dX4_readPlanes_106 at_src cvX4_100 rfl (kF_X8_refuse m0 sh rr ww so sc pl qo pn bm tg px fa hb _  2 v2 (fon_ne hE hF)) rfl (Nat.le_of_ble_eq_true rfl) (by decide) (by decide) (by decide) (by decide) (fun E h2 n2 hx => aw_out rfl (by decide) (by decide) (by obtain ⟨s106, e106, rfl, rfl⟩ := hx; exact ⟨_, (fon_ex e106 hE).symm, rfl, rfl⟩)) (fun r106 h106 n106 hp106 => ?_)
    obtain ⟨z106, s106, e106, rfl, rfl, rfl⟩ := hp106
    exact (hF (fon_ok e106 hE).symm).elim
def F_X4_readPlanes_98 (sb : A)  (v2 : Int32) (t0 : Int32) (sc : Src) (px : Pcx) : Out (Src × Pcx) Unit := F_X4_readPlanes_99 sb v2 t0 sc px
set_option maxHeartbeats 1000000 in
set_option maxRecDepth 100000 in
theorem b_X4_readPlanes_98 (m0 : Mnt) (sh : Nat → Nat) (rr : Nat → Ras) (ww : Nat → Row) (so : Nat) (pl : Pal) (qo : Qoi) (pn : Pnm) (bm : Bmp) (tg : Tga) (fa : A) (hb : aH) (n : Nat) (hso : isW so)  : Q_X4_readPlanes_98 m0 sh rr ww so pl qo pn bm tg fa hb n (F_X4_readPlanes_98 (y_b (ww so))) := by
  intro v2 t0 sc px res hE hF
  unfold F_X4_readPlanes_98 at hE
  refine aw_istore_n (lv2 := [(3, _), (1, _), (2, _)]) dX4_readPlanes_98 (by decide) rfl ?_
  exact aw_lv _ (List.forall_mem_cons.mpr ⟨rfl, (List.forall_mem_cons.mpr ⟨rfl, (List.forall_mem_cons.mpr ⟨rfl, fun _ h => absurd h List.not_mem_nil⟩)⟩)⟩) (b_X4_readPlanes_99 m0 sh rr ww so pl qo pn bm tg fa hb n hso  v2 t0 sc px _ hE hF)
def F_X4_readPlanes_97 (sb : A)  (v2 : Int32) (sc : Src) (px : Pcx) : Out (Src × Pcx) Unit := F_X4_readPlanes_98 sb v2 (0 : Int32) sc px
set_option maxHeartbeats 1000000 in
set_option maxRecDepth 100000 in
theorem b_X4_readPlanes_97 (m0 : Mnt) (sh : Nat → Nat) (rr : Nat → Ras) (ww : Nat → Row) (so : Nat) (pl : Pal) (qo : Qoi) (pn : Pnm) (bm : Bmp) (tg : Tga) (fa : A) (hb : aH) (n : Nat) (hso : isW so)  : Q_X4_readPlanes_97 m0 sh rr ww so pl qo pn bm tg fa hb n (F_X4_readPlanes_97 (y_b (ww so))) := by
  intro v2 sc px res hE hF
  unfold F_X4_readPlanes_97 at hE
  refine aw_iconst (v := 0) dX4_readPlanes_97 (by decide) ?_
  exact aw_lv _ (List.forall_mem_cons.mpr ⟨rfl, (List.forall_mem_cons.mpr ⟨rfl, fun _ h => absurd h List.not_mem_nil⟩)⟩) (b_X4_readPlanes_98 m0 sh rr ww so pl qo pn bm tg fa hb n hso  v2 (0 : Int32) sc px _ hE hF)
def F_X4_readPlanes_85 (sb : A)  (v2 : Int32) (sc : Src) (px : Pcx) : Out (Src × Pcx) Unit := if (px_ver px) = 5 then (F_X4_readPlanes_98 sb v2 (1 : Int32) sc px) else (F_X4_readPlanes_97 sb v2 sc px)
set_option maxHeartbeats 1000000 in
set_option maxRecDepth 100000 in
theorem b_X4_readPlanes_85 (m0 : Mnt) (sh : Nat → Nat) (rr : Nat → Ras) (ww : Nat → Row) (so : Nat) (pl : Pal) (qo : Qoi) (pn : Pnm) (bm : Bmp) (tg : Tga) (fa : A) (hb : aH) (n : Nat) (hso : isW so)  : Q_X4_readPlanes_85 m0 sh rr ww so pl qo pn bm tg fa hb n (F_X4_readPlanes_85 (y_b (ww so))) := by
  intro v2 sc px res hE hF
  unfold F_X4_readPlanes_85 at hE
  refine aw_aload_n dX4_readPlanes_85 rfl ?_
  refine aw_getf (v := .int (px_ver px)) dX4_readPlanes_86 flX4_97_3 at_pcx rfl ?_
  refine aw_iconst (v := 5) dX4_readPlanes_89 (by decide) ?_
  refine aw_icmp_ne (tgt := 97) dX4_readPlanes_90 (by decide) (fun c90 => ?_) (fun c90 => ?_)
  · replace hE := fif hE c90
    exact aw_lv _ (List.forall_mem_cons.mpr ⟨rfl, (List.forall_mem_cons.mpr ⟨rfl, fun _ h => absurd h List.not_mem_nil⟩)⟩) (b_X4_readPlanes_97 m0 sh rr ww so pl qo pn bm tg fa hb n hso  v2 sc px _ hE hF)
  · replace hE := fit hE c90
    refine aw_iconst (v := 1) dX4_readPlanes_93 (by decide) ?_
    refine aw_goto (tgt := 98) dX4_readPlanes_94 (by decide) ?_
    exact aw_lv _ (List.forall_mem_cons.mpr ⟨rfl, (List.forall_mem_cons.mpr ⟨rfl, fun _ h => absurd h List.not_mem_nil⟩)⟩) (b_X4_readPlanes_98 m0 sh rr ww so pl qo pn bm tg fa hb n hso  v2 (1 : Int32) sc px _ hE hF)
def F_X4_readPlanes_56 (sb : A)  (v2 : Int32) (t0 : Int32) (sc : Src) (px : Pcx) : Out (Src × Pcx) Unit := F_X4_readPlanes_99 sb v2 t0 sc px
set_option maxHeartbeats 1000000 in
set_option maxRecDepth 100000 in
theorem b_X4_readPlanes_56 (m0 : Mnt) (sh : Nat → Nat) (rr : Nat → Ras) (ww : Nat → Row) (so : Nat) (pl : Pal) (qo : Qoi) (pn : Pnm) (bm : Bmp) (tg : Tga) (fa : A) (hb : aH) (n : Nat) (hso : isW so)  : Q_X4_readPlanes_56 m0 sh rr ww so pl qo pn bm tg fa hb n (F_X4_readPlanes_56 (y_b (ww so))) := by
  intro v2 t0 sc px res hE hF
  unfold F_X4_readPlanes_56 at hE
  refine aw_istore_n (lv2 := [(3, _), (1, _), (2, _)]) dX4_readPlanes_56 (by decide) rfl ?_
  refine aw_goto (tgt := 99) dX4_readPlanes_57 (by decide) ?_
  exact aw_lv _ (List.forall_mem_cons.mpr ⟨rfl, (List.forall_mem_cons.mpr ⟨rfl, (List.forall_mem_cons.mpr ⟨rfl, fun _ h => absurd h List.not_mem_nil⟩)⟩)⟩) (b_X4_readPlanes_99 m0 sh rr ww so pl qo pn bm tg fa hb n hso  v2 t0 sc px _ hE hF)
def F_X4_readPlanes_55 (sb : A)  (v2 : Int32) (sc : Src) (px : Pcx) : Out (Src × Pcx) Unit := F_X4_readPlanes_56 sb v2 (0 : Int32) sc px
set_option maxHeartbeats 1000000 in
set_option maxRecDepth 100000 in
theorem b_X4_readPlanes_55 (m0 : Mnt) (sh : Nat → Nat) (rr : Nat → Ras) (ww : Nat → Row) (so : Nat) (pl : Pal) (qo : Qoi) (pn : Pnm) (bm : Bmp) (tg : Tga) (fa : A) (hb : aH) (n : Nat) (hso : isW so)  : Q_X4_readPlanes_55 m0 sh rr ww so pl qo pn bm tg fa hb n (F_X4_readPlanes_55 (y_b (ww so))) := by
  intro v2 sc px res hE hF
  unfold F_X4_readPlanes_55 at hE
  refine aw_iconst (v := 0) dX4_readPlanes_55 (by decide) ?_
  exact aw_lv _ (List.forall_mem_cons.mpr ⟨rfl, (List.forall_mem_cons.mpr ⟨rfl, fun _ h => absurd h List.not_mem_nil⟩)⟩) (b_X4_readPlanes_56 m0 sh rr ww so pl qo pn bm tg fa hb n hso  v2 (0 : Int32) sc px _ hE hF)
def F_X4_readPlanes_26 (sb : A)  (v2 : Int32) (t0 : Int32) (sc : Src) (px : Pcx) : Out (Src × Pcx) Unit := if (px_bits px) = 1 then (if (px_planes px) < 1 then (F_X4_readPlanes_55 sb v2 sc px) else (if 4 < (px_planes px) then (F_X4_readPlanes_55 sb v2 sc px) else (F_X4_readPlanes_56 sb v2 (1 : Int32) sc px))) else (if (px_bits px) = 8 then (if (px_planes px) = 1 then (F_X4_readPlanes_85 sb v2 sc px) else (if (px_planes px) = 3 then (F_X4_readPlanes_85 sb v2 sc px) else (F_X4_readPlanes_97 sb v2 sc px))) else (F_X4_readPlanes_99 sb v2 t0 sc px))
set_option maxHeartbeats 1000000 in
set_option maxRecDepth 100000 in
theorem b_X4_readPlanes_26 (m0 : Mnt) (sh : Nat → Nat) (rr : Nat → Ras) (ww : Nat → Row) (so : Nat) (pl : Pal) (qo : Qoi) (pn : Pnm) (bm : Bmp) (tg : Tga) (fa : A) (hb : aH) (n : Nat) (hso : isW so)  : Q_X4_readPlanes_26 m0 sh rr ww so pl qo pn bm tg fa hb n (F_X4_readPlanes_26 (y_b (ww so))) := by
  intro v2 t0 sc px res hE hF
  unfold F_X4_readPlanes_26 at hE
  refine aw_istore_n (lv2 := [(3, _), (0, _), (1, _), (2, _)]) dX4_readPlanes_26 (by decide) rfl ?_
  refine aw_aload_n dX4_readPlanes_27 rfl ?_
  refine aw_getf (v := .int (px_bits px)) dX4_readPlanes_28 flX4_65_3 at_pcx rfl ?_
  refine aw_iconst (v := 1) dX4_readPlanes_31 (by decide) ?_
  refine aw_icmp_ne (tgt := 60) dX4_readPlanes_32 (by decide) (fun c32 => ?_) (fun c32 => ?_)
  · replace hE := fif hE c32
    refine aw_aload_n dX4_readPlanes_60 rfl ?_
    refine aw_getf (v := .int (px_bits px)) dX4_readPlanes_61 flX4_65_3 at_pcx rfl ?_
    refine aw_bipush (v := 8) dX4_readPlanes_64 (by decide) ?_
    refine aw_icmp_ne (tgt := 99) dX4_readPlanes_66 (by decide) (fun c66 => ?_) (fun c66 => ?_)
    · replace hE := fif hE c66
      exact aw_lv _ (List.forall_mem_cons.mpr ⟨rfl, (List.forall_mem_cons.mpr ⟨rfl, (List.forall_mem_cons.mpr ⟨rfl, fun _ h => absurd h List.not_mem_nil⟩)⟩)⟩) (b_X4_readPlanes_99 m0 sh rr ww so pl qo pn bm tg fa hb n hso  v2 t0 sc px _ hE hF)
    · replace hE := fit hE c66
      refine aw_aload_n dX4_readPlanes_69 rfl ?_
      refine aw_getf (v := .int (px_planes px)) dX4_readPlanes_70 flX4_68_3 at_pcx rfl ?_
      refine aw_iconst (v := 1) dX4_readPlanes_73 (by decide) ?_
      refine aw_icmp_eq (tgt := 85) dX4_readPlanes_74 (by decide) (fun c74 => ?_) (fun c74 => ?_)
      · replace hE := fit hE c74
        exact aw_lv _ (List.forall_mem_cons.mpr ⟨rfl, (List.forall_mem_cons.mpr ⟨rfl, (List.forall_mem_cons.mpr ⟨rfl, fun _ h => absurd h List.not_mem_nil⟩)⟩)⟩) (b_X4_readPlanes_85 m0 sh rr ww so pl qo pn bm tg fa hb n hso  v2 sc px _ hE hF)
      · replace hE := fif hE c74
        refine aw_aload_n dX4_readPlanes_77 rfl ?_
        refine aw_getf (v := .int (px_planes px)) dX4_readPlanes_78 flX4_68_3 at_pcx rfl ?_
        refine aw_iconst (v := 3) dX4_readPlanes_81 (by decide) ?_
        refine aw_icmp_ne (tgt := 97) dX4_readPlanes_82 (by decide) (fun c82 => ?_) (fun c82 => ?_)
        · replace hE := fif hE c82
          exact aw_lv _ (List.forall_mem_cons.mpr ⟨rfl, (List.forall_mem_cons.mpr ⟨rfl, fun _ h => absurd h List.not_mem_nil⟩)⟩) (b_X4_readPlanes_97 m0 sh rr ww so pl qo pn bm tg fa hb n hso  v2 sc px _ hE hF)
        · replace hE := fit hE c82
          exact aw_lv _ (List.forall_mem_cons.mpr ⟨rfl, (List.forall_mem_cons.mpr ⟨rfl, (List.forall_mem_cons.mpr ⟨rfl, fun _ h => absurd h List.not_mem_nil⟩)⟩)⟩) (b_X4_readPlanes_85 m0 sh rr ww so pl qo pn bm tg fa hb n hso  v2 sc px _ hE hF)
  · replace hE := fit hE c32
    refine aw_aload_n dX4_readPlanes_35 rfl ?_
    refine aw_getf (v := .int (px_planes px)) dX4_readPlanes_36 flX4_68_3 at_pcx rfl ?_
    refine aw_iconst (v := 1) dX4_readPlanes_39 (by decide) ?_
    refine aw_icmp_lt (tgt := 55) dX4_readPlanes_40 (by decide) (fun c40 => ?_) (fun c40 => ?_)
    · replace hE := fit hE c40
      exact aw_lv _ (List.forall_mem_cons.mpr ⟨rfl, (List.forall_mem_cons.mpr ⟨rfl, fun _ h => absurd h List.not_mem_nil⟩)⟩) (b_X4_readPlanes_55 m0 sh rr ww so pl qo pn bm tg fa hb n hso  v2 sc px _ hE hF)
    · replace hE := fif hE c40
      refine aw_aload_n dX4_readPlanes_43 rfl ?_
      refine aw_getf (v := .int (px_planes px)) dX4_readPlanes_44 flX4_68_3 at_pcx rfl ?_
      refine aw_iconst (v := 4) dX4_readPlanes_47 (by decide) ?_
      refine aw_icmp_gt (tgt := 55) dX4_readPlanes_48 (by decide) (fun c48 => ?_) (fun c48 => ?_)
      · replace hE := fit hE c48
        exact aw_lv _ (List.forall_mem_cons.mpr ⟨rfl, (List.forall_mem_cons.mpr ⟨rfl, fun _ h => absurd h List.not_mem_nil⟩)⟩) (b_X4_readPlanes_55 m0 sh rr ww so pl qo pn bm tg fa hb n hso  v2 sc px _ hE hF)
      · replace hE := fif hE c48
        refine aw_iconst (v := 1) dX4_readPlanes_51 (by decide) ?_
        refine aw_goto (tgt := 56) dX4_readPlanes_52 (by decide) ?_
        exact aw_lv _ (List.forall_mem_cons.mpr ⟨rfl, (List.forall_mem_cons.mpr ⟨rfl, fun _ h => absurd h List.not_mem_nil⟩)⟩) (b_X4_readPlanes_56 m0 sh rr ww so pl qo pn bm tg fa hb n hso  v2 (1 : Int32) sc px _ hE hF)
def F_X4_readPlanes (sc : Src) (sb : A) (px : Pcx) : Out (Src × Pcx) Unit := fon (F_X8_next sc sb) (fun z7 s7 => if z7 = 1 then (F_X4_readPlanes_26 sb (sc_pos sc) (1 : Int32) s7 ((px_f1 px), (px_f2 px), (px_f3 px), (px_ver px), (px_bits px), (px_per px), z7, (px_step px), (px_col px))) else (F_X4_readPlanes_26 sb (sc_pos sc) (0 : Int32) s7 ((px_f1 px), (px_f2 px), (px_f3 px), (px_ver px), (px_bits px), (px_per px), z7, (px_step px), (px_col px)))) (fun E s7 => fex E (s7, px))
set_option maxHeartbeats 1000000 in
set_option maxRecDepth 100000 in
theorem kF_X4_readPlanes (m0 : Mnt) (sh : Nat → Nat) (rr : Nat → Ras) (ww : Nat → Row) (so : Nat) (sc : Src) (pl : Pal) (qo : Qoi) (pn : Pnm) (bm : Bmp) (tg : Tga) (px : Pcx) (fa : A) (hb : aH) (n : Nat) (hso : isW so)  (hF : F_X4_readPlanes sc (y_b (ww so)) px ≠ fno) : AM mX4_readPlanes 4 [.ref 28, .ref 16] (HC m0 sh rr ww so sc pl qo pn bm tg px fa hb) n 1 6 0 0 (P_X4_readPlanes m0 sh rr ww so pl qo pn bm tg fa hb n (F_X4_readPlanes sc (y_b (ww so)) px)) (X_X4_readPlanes m0 sh rr ww so pl qo pn bm tg fa hb n (F_X4_readPlanes sc (y_b (ww so)) px)) := by
  generalize hE : F_X4_readPlanes sc (y_b (ww so)) px = res at hF ⊢
  refine aw_of (by decide +kernel) rfl (Nat.le_of_ble_eq_true rfl) ?_
  unfold F_X4_readPlanes at hE
  refine aw_aload_n dX4_readPlanes_0 rfl ?_
  refine aw_getf (v := .int (sc_pos sc)) dX4_readPlanes_1 flX4_90_7 at_src rfl ?_
  refine aw_istore_n (lv2 := [(2, _), (0, _), (1, _)]) dX4_readPlanes_4 (by decide) rfl ?_
  refine aw_aload_n dX4_readPlanes_5 rfl ?_
  refine aw_aload_n dX4_readPlanes_6 rfl ?_
  refine aw_callV dX4_readPlanes_7 at_src cvX4_93 rfl (kF_X8_next m0 sh rr ww so sc pl qo pn bm tg px fa hb _ hso  (fon_ne hE hF)) rfl (Nat.le_of_ble_eq_true rfl) (by decide) (by decide) (by decide) (by decide) (fun E h2 n2 hx => aw_out rfl (by decide) (by decide) (by obtain ⟨s7, e7, rfl, rfl⟩ := hx; exact ⟨_, (fon_ex e7 hE).symm, rfl, rfl⟩)) (fun r7 h7 n7 hp7 => ?_)
  obtain ⟨z7, s7, e7, rfl, rfl, rfl⟩ := hp7
  replace hE := fon_ok e7 hE
  refine aw_putf dX4_readPlanes_10 ptX4_68_3 at_pcx (Nat.le_of_ble_eq_true rfl) ⟨rfl, rfl⟩ ?_
  refine aw_eqh (h2 := HC m0 sh rr ww so s7 pl qo pn bm tg ((px_f1 px), (px_f2 px), (px_f3 px), (px_ver px), (px_bits px), (px_per px), z7, (px_step px), (px_col px)) fa hb) up_pcx ?_
  refine aw_aload_n dX4_readPlanes_13 rfl ?_
  refine aw_getf (v := .int z7) dX4_readPlanes_14 flX4_68_3 at_pcx rfl ?_
  refine aw_iconst (v := 1) dX4_readPlanes_17 (by decide) ?_
  refine aw_icmp_ne (tgt := 25) dX4_readPlanes_18 (by decide) (fun c18 => ?_) (fun c18 => ?_)
  · replace hE := fif hE c18
    refine aw_iconst (v := 0) dX4_readPlanes_25 (by decide) ?_
    exact aw_lv _ (List.forall_mem_cons.mpr ⟨rfl, (List.forall_mem_cons.mpr ⟨rfl, (List.forall_mem_cons.mpr ⟨rfl, fun _ h => absurd h List.not_mem_nil⟩)⟩)⟩) (b_X4_readPlanes_26 m0 sh rr ww so pl qo pn bm tg fa hb n hso  (sc_pos sc) (0 : Int32) s7 ((px_f1 px), (px_f2 px), (px_f3 px), (px_ver px), (px_bits px), (px_per px), z7, (px_step px), (px_col px)) _ hE hF)
  · replace hE := fit hE c18
    refine aw_iconst (v := 1) dX4_readPlanes_21 (by decide) ?_
    refine aw_goto (tgt := 26) dX4_readPlanes_22 (by decide) ?_
    exact aw_lv _ (List.forall_mem_cons.mpr ⟨rfl, (List.forall_mem_cons.mpr ⟨rfl, (List.forall_mem_cons.mpr ⟨rfl, fun _ h => absurd h List.not_mem_nil⟩)⟩)⟩) (b_X4_readPlanes_26 m0 sh rr ww so pl qo pn bm tg fa hb n hso  (sc_pos sc) (1 : Int32) s7 ((px_f1 px), (px_f2 px), (px_f3 px), (px_ver px), (px_bits px), (px_per px), z7, (px_step px), (px_col px)) _ hE hF)
def P_X4_readStep (m0 : Mnt) (sh : Nat → Nat) (rr : Nat → Ras) (ww : Nat → Row) (so : Nat) (pl : Pal) (qo : Qoi) (pn : Pnm) (bm : Bmp) (tg : Tga) (fa : A) (hb : aH) (n : Nat) (res : Out (Src × Pcx) Unit) : Option Value → aH → Nat → Prop := fun r1 h2 n2 => ∃ (a : Unit) (s : (Src × Pcx)), res = fok a s ∧ r1 = none ∧ h2 = HC m0 sh rr ww so s.1 pl qo pn bm tg s.2 fa hb ∧ n = n2
def X_X4_readStep (m0 : Mnt) (sh : Nat → Nat) (rr : Nat → Ras) (ww : Nat → Row) (so : Nat) (pl : Pal) (qo : Qoi) (pn : Pnm) (bm : Bmp) (tg : Tga) (fa : A) (hb : aH) (n : Nat) (res : Out (Src × Pcx) Unit) : String → aH → Nat → Prop := fun E h2 n2 => ∃ s : (Src × Pcx), res = fex E s ∧ h2 = HC m0 sh rr ww so s.1 pl qo pn bm tg s.2 fa hb ∧ n = n2
abbrev Q_X4_readStep_42 (m0 : Mnt) (sh : Nat → Nat) (rr : Nat → Ras) (ww : Nat → Row) (so : Nat) (pl : Pal) (qo : Qoi) (pn : Pnm) (bm : Bmp) (tg : Tga) (fa : A) (hb : aH) (n : Nat) (k : Int32 → Src → Pcx → Out (Src × Pcx) Unit) : Prop := ∀ (v3 : Int32) (sc : Src) (px : Pcx) (res : Out (Src × Pcx) Unit), k v3 sc px = res → res ≠ fno → AW (fun _ _ => True) mX4_readStep (rmD 5 1 6) 0 0 (P_X4_readStep m0 sh rr ww so pl qo pn bm tg fa hb n res) (X_X4_readStep m0 sh rr ww so pl qo pn bm tg fa hb n res) 0 0 42 [(1, .ref 16), (3, .int v3)] [] (HC m0 sh rr ww so sc pl qo pn bm tg px fa hb) n
def F_X4_readStep_42 (sb : A)  (v3 : Int32) (sc : Src) (px : Pcx) : Out (Src × Pcx) Unit := fon (F_X8_refuse 2 v3 sc) (fun _ _ => fno) (fun E s45 => fex E (s45, px))
set_option maxHeartbeats 1000000 in
set_option maxRecDepth 100000 in
theorem b_X4_readStep_42 (m0 : Mnt) (sh : Nat → Nat) (rr : Nat → Ras) (ww : Nat → Row) (so : Nat) (pl : Pal) (qo : Qoi) (pn : Pnm) (bm : Bmp) (tg : Tga) (fa : A) (hb : aH) (n : Nat) (hso : isW so)  : Q_X4_readStep_42 m0 sh rr ww so pl qo pn bm tg fa hb n (F_X4_readStep_42 (y_b (ww so))) := by
  intro v3 sc px res hE hF
  unfold F_X4_readStep_42 at hE
  refine aw_aload_n dX4_readStep_42 rfl ?_
  refine aw_iconst (v := 2) dX4_readStep_43 (by decide) ?_
  refine aw_iload_n dX4_readStep_44 rfl ?_
  refine aw_callV dX4_readStep_45 at_src cvX4_100 rfl (kF_X8_refuse m0 sh rr ww so sc pl qo pn bm tg px fa hb _  2 v3 (fon_ne hE hF)) rfl (Nat.le_of_ble_eq_true rfl) (by decide) (by decide) (by decide) (by decide) (fun E h2 n2 hx => aw_out rfl (by decide) (by decide) (by obtain ⟨s45, e45, rfl, rfl⟩ := hx; exact ⟨_, (fon_ex e45 hE).symm, rfl, rfl⟩)) (fun r45 h45 n45 hp45 => ?_)
  obtain ⟨z45, s45, e45, rfl, rfl, rfl⟩ := hp45
  exact (hF (fon_ok e45 hE).symm).elim
def F_X4_readStep (a2 : Int32) (sc : Src) (sb : A) (px : Pcx) : Out (Src × Pcx) Unit := fon (F_X8_low2 sc sb) (fun z7 s7 => if (z7 &&& 1) = 1 then (F_X4_readStep_42 sb (sc_pos sc) s7 ((px_f1 px), (px_f2 px), (px_f3 px), (px_ver px), (px_bits px), (px_per px), (px_planes px), z7, (px_col px))) else (if (((a2 * (px_bits px)) + 7) / 8) ≤ z7 then (fok () (s7, ((px_f1 px), (px_f2 px), (px_f3 px), (px_ver px), (px_bits px), (px_per px), (px_planes px), z7, (px_col px)))) else (F_X4_readStep_42 sb (sc_pos sc) s7 ((px_f1 px), (px_f2 px), (px_f3 px), (px_ver px), (px_bits px), (px_per px), (px_planes px), z7, (px_col px))))) (fun E s7 => fex E (s7, px))
set_option maxHeartbeats 1000000 in
set_option maxRecDepth 100000 in
theorem kF_X4_readStep (m0 : Mnt) (sh : Nat → Nat) (rr : Nat → Ras) (ww : Nat → Row) (so : Nat) (sc : Src) (pl : Pal) (qo : Qoi) (pn : Pnm) (bm : Bmp) (tg : Tga) (px : Pcx) (fa : A) (hb : aH) (n : Nat) (hso : isW so) (a2 : Int32) (hF : F_X4_readStep a2 sc (y_b (ww so)) px ≠ fno) : AM mX4_readStep 5 [.ref 28, .ref 16, .int a2] (HC m0 sh rr ww so sc pl qo pn bm tg px fa hb) n 1 6 0 0 (P_X4_readStep m0 sh rr ww so pl qo pn bm tg fa hb n (F_X4_readStep a2 sc (y_b (ww so)) px)) (X_X4_readStep m0 sh rr ww so pl qo pn bm tg fa hb n (F_X4_readStep a2 sc (y_b (ww so)) px)) := by
  generalize hE : F_X4_readStep a2 sc (y_b (ww so)) px = res at hF ⊢
  refine aw_of (by decide +kernel) rfl (Nat.le_of_ble_eq_true rfl) ?_
  unfold F_X4_readStep at hE
  refine aw_aload_n dX4_readStep_0 rfl ?_
  refine aw_getf (v := .int (sc_pos sc)) dX4_readStep_1 flX4_90_7 at_src rfl ?_
  refine aw_istore_n (lv2 := [(3, _), (0, _), (1, _), (2, _)]) dX4_readStep_4 (by decide) rfl ?_
  refine aw_aload_n dX4_readStep_5 rfl ?_
  refine aw_aload_n dX4_readStep_6 rfl ?_
  refine aw_callV dX4_readStep_7 at_src cvX4_107 rfl (kF_X8_low2 m0 sh rr ww so sc pl qo pn bm tg px fa hb _ hso  (fon_ne hE hF)) rfl (Nat.le_of_ble_eq_true rfl) (by decide) (by decide) (by decide) (by decide) (fun E h2 n2 hx => aw_out rfl (by decide) (by decide) (by obtain ⟨s7, e7, rfl, rfl⟩ := hx; exact ⟨_, (fon_ex e7 hE).symm, rfl, rfl⟩)) (fun r7 h7 n7 hp7 => ?_)
  obtain ⟨z7, s7, e7, rfl, rfl, rfl⟩ := hp7
  replace hE := fon_ok e7 hE
  refine aw_putf dX4_readStep_10 ptX4_84_3 at_pcx (Nat.le_of_ble_eq_true rfl) ⟨rfl, rfl⟩ ?_
  refine aw_eqh (h2 := HC m0 sh rr ww so s7 pl qo pn bm tg ((px_f1 px), (px_f2 px), (px_f3 px), (px_ver px), (px_bits px), (px_per px), (px_planes px), z7, (px_col px)) fa hb) up_pcx ?_
  refine aw_aload_n dX4_readStep_13 rfl ?_
  refine aw_getf (v := .int z7) dX4_readStep_14 flX4_84_3 at_pcx rfl ?_
  refine aw_iconst (v := 1) dX4_readStep_17 (by decide) ?_
  refine aw_iand dX4_readStep_18 ?_
  refine aw_iconst (v := 1) dX4_readStep_19 (by decide) ?_
  refine aw_icmp_eq (tgt := 42) dX4_readStep_20 (by decide) (fun c20 => ?_) (fun c20 => ?_)
  · replace hE := fit hE c20
    exact aw_lv _ (List.forall_mem_cons.mpr ⟨rfl, (List.forall_mem_cons.mpr ⟨rfl, fun _ h => absurd h List.not_mem_nil⟩)⟩) (b_X4_readStep_42 m0 sh rr ww so pl qo pn bm tg fa hb n hso  (sc_pos sc) s7 ((px_f1 px), (px_f2 px), (px_f3 px), (px_ver px), (px_bits px), (px_per px), (px_planes px), z7, (px_col px)) _ hE hF)
  · replace hE := fif hE c20
    refine aw_aload_n dX4_readStep_23 rfl ?_
    refine aw_getf (v := .int z7) dX4_readStep_24 flX4_84_3 at_pcx rfl ?_
    refine aw_iload_n dX4_readStep_27 rfl ?_
    refine aw_aload_n dX4_readStep_28 rfl ?_
    refine aw_getf (v := .int (px_bits px)) dX4_readStep_29 flX4_65_3 at_pcx rfl ?_
    refine aw_imul dX4_readStep_32 ?_
    refine aw_bipush (v := 7) dX4_readStep_33 (by decide) ?_
    refine aw_iadd dX4_readStep_35 ?_
    refine aw_bipush (v := 8) dX4_readStep_36 (by decide) ?_
    refine aw_idiv dX4_readStep_38 (by decide) ?_
    refine aw_icmp_ge (tgt := 48) dX4_readStep_39 (by decide) (fun c39 => ?_) (fun c39 => ?_)
    · replace hE := fit hE c39
      exact aw_vret dX4_readStep_48 rfl (Nat.zero_le _) (Nat.zero_le _) (Nat.zero_le _) (Nat.zero_le _) ⟨_, _, hE.symm, rfl, rfl, rfl⟩
    · replace hE := fif hE c39
      exact aw_lv _ (List.forall_mem_cons.mpr ⟨rfl, (List.forall_mem_cons.mpr ⟨rfl, fun _ h => absurd h List.not_mem_nil⟩)⟩) (b_X4_readStep_42 m0 sh rr ww so pl qo pn bm tg fa hb n hso  (sc_pos sc) s7 ((px_f1 px), (px_f2 px), (px_f3 px), (px_ver px), (px_bits px), (px_per px), (px_planes px), z7, (px_col px)) _ hE hF)
