def P_X4_addBits (m0 : Mnt) (sh : Nat → Nat) (rr : Nat → Ras) (r : Nat) (ww : Nat → Row) (so : Nat) (sc : Src) (pl : Pal) (qo : Qoi) (pn : Pnm) (bm : Bmp) (tg : Tga) (px : Pcx) (fa : A) (hb : aH) (n : Nat) (res : Out Ras Unit) : Option Value → aH → Nat → Prop := fun r1 h2 n2 => ∃ (a : Unit) (s : Ras), res = fok a s ∧ r1 = none ∧ h2 = HC m0 sh (va_up rr r s) ww so sc pl qo pn bm tg px fa hb ∧ n = n2
abbrev Q_X4_addBits_18 (m0 : Mnt) (sh : Nat → Nat) (rr : Nat → Ras) (r : Nat) (ww : Nat → Row) (so : Nat) (sc : Src) (pl : Pal) (qo : Qoi) (pn : Pnm) (bm : Bmp) (tg : Tga) (px : Pcx) (fa : A) (hb : aH) (n : Nat) (k : Int32 → Int32 → Int32 → Int32 → Int32 → Ras → Out Ras Unit) : Prop := ∀ (v2 : Int32) (v3 : Int32) (v5 : Int32) (v6 : Int32) (v7 : Int32) (x : Ras) (res : Out Ras Unit), k v2 v3 v5 v6 v7 x = res → res ≠ fno → AW (fun _ _ => True) mX4_addBits (rmD 2 0 0) 0 0 (P_X4_addBits m0 sh rr r ww so sc pl qo pn bm tg px fa hb n res) (fun _ _ _ => False) 0 0 18 [(0, .ref 28), (1, .ref r), (2, .int v2), (3, .int v3), (5, .int v5), (6, .int v6), (7, .int v7)] [] (HC m0 sh (va_up rr r x) ww so sc pl qo pn bm tg px fa hb) n
def F_X4_addBits_18 (px : Pcx) (k18 : Int32 → Int32 → Int32 → Int32 → Int32 → Ras → Out Ras Unit) (v2 : Int32) (v3 : Int32) (v5 : Int32) (v6 : Int32) (v7 : Int32) (x : Ras) : Out Ras Unit := if v7 < 0 then (fok () x) else (if (x_w x) ≤ v6 then (fok () x) else (fon (F_X7_get ((v2 * (x_w x)) + v6) x) (fun z65 s65 => fon (F_X7_set ((v2 * (x_w x)) + v6) (z65 ||| (((v5 >>> (v7 &&& 31)) &&& ((1 <<< ((px_bits px) &&& 31)) - 1)) <<< ((v3 * (px_bits px)) &&& 31))) x) (fun z78 s78 => k18 v2 v3 v5 (v6 + 1) (v7 - (px_bits px)) s78) (fun _ _ => fno)) (fun _ _ => fno)))
set_option maxHeartbeats 1000000 in
set_option maxRecDepth 100000 in
theorem b_X4_addBits_18 (m0 : Mnt) (sh : Nat → Nat) (rr : Nat → Ras) (r : Nat) (ww : Nat → Row) (so : Nat) (sc : Src) (pl : Pal) (qo : Qoi) (pn : Pnm) (bm : Bmp) (tg : Tga) (px : Pcx) (fa : A) (hb : aH) (n : Nat) (hr : isR r) (k18 : Int32 → Int32 → Int32 → Int32 → Int32 → Ras → Out Ras Unit) (hk18 : Q_X4_addBits_18 m0 sh rr r ww so sc pl qo pn bm tg px fa hb n k18) : Q_X4_addBits_18 m0 sh rr r ww so sc pl qo pn bm tg px fa hb n (F_X4_addBits_18 px k18) := by
  intro v2 v3 v5 v6 v7 x res hE hF
  unfold F_X4_addBits_18 at hE
  refine aw_iload dX4_addBits_18 rfl ?_
  refine aw_if_lt (tgt := 96) dX4_addBits_20 (by decide) (fun c20 => ?_) (fun c20 => ?_)
  · replace hE := fit hE c20
    exact aw_vret dX4_addBits_96 rfl (Nat.zero_le _) (Nat.zero_le _) (Nat.zero_le _) (Nat.zero_le _) ⟨_, _, hE.symm, rfl, rfl, rfl⟩
  · replace hE := fif hE c20
    refine aw_iload dX4_addBits_23 rfl ?_
    refine aw_aload_n dX4_addBits_25 rfl ?_
    refine aw_getf (v := .int (x_w x)) dX4_addBits_26 flX4_46_6 (at_ras hr) rfl ?_
    refine aw_icmp_ge (tgt := 96) dX4_addBits_29 (by decide) (fun c29 => ?_) (fun c29 => ?_)
    · replace hE := fit hE c29
      exact aw_vret dX4_addBits_96 rfl (Nat.zero_le _) (Nat.zero_le _) (Nat.zero_le _) (Nat.zero_le _) ⟨_, _, hE.symm, rfl, rfl, rfl⟩
    · replace hE := fif hE c29
      refine aw_iload_n dX4_addBits_32 rfl ?_
      refine aw_aload_n dX4_addBits_33 rfl ?_
      refine aw_getf (v := .int (x_w x)) dX4_addBits_34 flX4_46_6 (at_ras hr) rfl ?_
      refine aw_imul dX4_addBits_37 ?_
      refine aw_iload dX4_addBits_38 rfl ?_
      refine aw_iadd dX4_addBits_40 ?_
      refine aw_istore (lv2 := [(8, _), (0, _), (1, _), (2, _), (3, _), (5, _), (6, _), (7, _)]) dX4_addBits_41 (by decide) rfl ?_
      refine aw_iload dX4_addBits_43 rfl ?_
      refine aw_iload dX4_addBits_45 rfl ?_
      refine aw_ishr dX4_addBits_47 ?_
      refine aw_iconst (v := 1) dX4_addBits_48 (by decide) ?_
      refine aw_aload_n dX4_addBits_49 rfl ?_
      refine aw_getf (v := .int (px_bits px)) dX4_addBits_50 flX4_65_3 at_pcx rfl ?_
      refine aw_ishl dX4_addBits_53 ?_
      refine aw_iconst (v := 1) dX4_addBits_54 (by decide) ?_
      refine aw_isub dX4_addBits_55 ?_
      refine aw_iand dX4_addBits_56 ?_
      refine aw_istore (lv2 := [(9, _), (8, _), (0, _), (1, _), (2, _), (3, _), (5, _), (6, _), (7, _)]) dX4_addBits_57 (by decide) rfl ?_
      refine aw_aload_n dX4_addBits_59 rfl ?_
      refine aw_iload dX4_addBits_60 rfl ?_
      refine aw_aload_n dX4_addBits_62 rfl ?_
      refine aw_iload dX4_addBits_63 rfl ?_
      refine aw_callV dX4_addBits_65 (at_ras hr) cvX4_128 rfl (kF_X7_get m0 sh rr r x ww so sc pl qo pn bm tg px fa hb _ hr ((v2 * (x_w x)) + v6) (fon_ne hE hF)) rfl (Nat.le_of_ble_eq_true rfl) (by decide) (by decide) (by decide) (by decide) (fun _ _ _ hf => False.elim hf) (fun r65 h65 n65 hp65 => ?_)
      obtain ⟨z65, s65, e65, rfl, rfl, rfl⟩ := hp65
      replace hE := fon_ok e65 hE
      refine aw_iload dX4_addBits_68 rfl ?_
      refine aw_iload_n dX4_addBits_70 rfl ?_
      refine aw_aload_n dX4_addBits_71 rfl ?_
      refine aw_getf (v := .int (px_bits px)) dX4_addBits_72 flX4_65_3 at_pcx rfl ?_
      refine aw_imul dX4_addBits_75 ?_
      refine aw_ishl dX4_addBits_76 ?_
      refine aw_ior dX4_addBits_77 ?_
      refine aw_callV dX4_addBits_78 (at_ras hr) cvX4_132 rfl (kF_X7_set m0 sh rr r x ww so sc pl qo pn bm tg px fa hb _ hr ((v2 * (x_w x)) + v6) (z65 ||| (((v5 >>> (v7 &&& 31)) &&& ((1 <<< ((px_bits px) &&& 31)) - 1)) <<< ((v3 * (px_bits px)) &&& 31))) (fon_ne hE hF)) rfl (Nat.le_of_ble_eq_true rfl) (by decide) (by decide) (by decide) (by decide) (fun _ _ _ hf => False.elim hf) (fun r78 h78 n78 hp78 => ?_)
      obtain ⟨z78, s78, e78, rfl, rfl, rfl⟩ := hp78
      replace hE := fon_ok e78 hE
      refine aw_iinc (v := (v6 + 1)) (lv2 := [(6, _), (9, _), (8, _), (0, _), (1, _), (2, _), (3, _), (5, _), (7, _)]) dX4_addBits_81 rfl (incE (by decide)) (by decide) rfl ?_
      refine aw_iload dX4_addBits_84 rfl ?_
      refine aw_aload_n dX4_addBits_86 rfl ?_
      refine aw_getf (v := .int (px_bits px)) dX4_addBits_87 flX4_65_3 at_pcx rfl ?_
      refine aw_isub dX4_addBits_90 ?_
      refine aw_istore (lv2 := [(7, _), (6, _), (9, _), (8, _), (0, _), (1, _), (2, _), (3, _), (5, _)]) dX4_addBits_91 (by decide) rfl ?_
      refine aw_goto (tgt := 18) dX4_addBits_93 (by decide) ?_
      exact aw_lv _ (List.forall_mem_cons.mpr ⟨rfl, (List.forall_mem_cons.mpr ⟨rfl, (List.forall_mem_cons.mpr ⟨rfl, (List.forall_mem_cons.mpr ⟨rfl, (List.forall_mem_cons.mpr ⟨rfl, (List.forall_mem_cons.mpr ⟨rfl, (List.forall_mem_cons.mpr ⟨rfl, fun _ h => absurd h List.not_mem_nil⟩)⟩)⟩)⟩)⟩)⟩)⟩) (hk18 v2 v3 v5 (v6 + 1) (v7 - (px_bits px)) s78 _ hE hF)
def F_X4_addBits (a2 : Int32) (a3 : Int32) (a4 : Int32) (a5 : Int32) (x : Ras) (px : Pcx) : Out Ras Unit := lp (fun _ _ _ _ _ _ => fno) (F_X4_addBits_18 px) FU a2 a3 a5 (a4 * (px_per px)) (8 - (px_bits px)) x
set_option maxHeartbeats 1000000 in
set_option maxRecDepth 100000 in
theorem kF_X4_addBits (m0 : Mnt) (sh : Nat → Nat) (rr : Nat → Ras) (r : Nat) (x : Ras) (ww : Nat → Row) (so : Nat) (sc : Src) (pl : Pal) (qo : Qoi) (pn : Pnm) (bm : Bmp) (tg : Tga) (px : Pcx) (fa : A) (hb : aH) (n : Nat) (hr : isR r) (a2 : Int32) (a3 : Int32) (a4 : Int32) (a5 : Int32) (hF : F_X4_addBits a2 a3 a4 a5 x px ≠ fno) : AM mX4_addBits 2 [.ref 28, .ref r, .int a2, .int a3, .int a4, .int a5] (HC m0 sh (va_up rr r x) ww so sc pl qo pn bm tg px fa hb) n 0 0 0 0 (P_X4_addBits m0 sh rr r ww so sc pl qo pn bm tg px fa hb n (F_X4_addBits a2 a3 a4 a5 x px)) (fun _ _ _ => False) := by
  generalize hE : F_X4_addBits a2 a3 a4 a5 x px = res at hF ⊢
  refine aw_of (by decide +kernel) rfl (Nat.le_of_ble_eq_true rfl) ?_
  unfold F_X4_addBits at hE
  refine aw_iload dX4_addBits_0 rfl ?_
  refine aw_aload_n dX4_addBits_2 rfl ?_
  refine aw_getf (v := .int (px_per px)) dX4_addBits_3 flX4_104_3 at_pcx rfl ?_
  refine aw_imul dX4_addBits_6 ?_
  refine aw_istore (lv2 := [(6, _), (0, _), (1, _), (2, _), (3, _), (4, _), (5, _)]) dX4_addBits_7 (by decide) rfl ?_
  refine aw_bipush (v := 8) dX4_addBits_9 (by decide) ?_
  refine aw_aload_n dX4_addBits_11 rfl ?_
  refine aw_getf (v := .int (px_bits px)) dX4_addBits_12 flX4_65_3 at_pcx rfl ?_
  refine aw_isub dX4_addBits_15 ?_
  refine aw_istore (lv2 := [(7, _), (6, _), (0, _), (1, _), (2, _), (3, _), (4, _), (5, _)]) dX4_addBits_16 (by decide) rfl ?_
  exact aw_lv _ (List.forall_mem_cons.mpr ⟨rfl, (List.forall_mem_cons.mpr ⟨rfl, (List.forall_mem_cons.mpr ⟨rfl, (List.forall_mem_cons.mpr ⟨rfl, (List.forall_mem_cons.mpr ⟨rfl, (List.forall_mem_cons.mpr ⟨rfl, (List.forall_mem_cons.mpr ⟨rfl, fun _ h => absurd h List.not_mem_nil⟩)⟩)⟩)⟩)⟩)⟩)⟩) (lp_ind (Q_X4_addBits_18 m0 sh rr r ww so sc pl qo pn bm tg px fa hb n) (fun _ _ _ _ _ _ res hq hF => (hF hq.symm).elim) (fun k hk => b_X4_addBits_18 m0 sh rr r ww so sc pl qo pn bm tg px fa hb n hr  k hk) FU a2 a3 a5 (a4 * (px_per px)) (8 - (px_bits px)) x _ hE hF)
def P_X4_colour (m0 : Mnt) (sh : Nat → Nat) (rr : Nat → Ras) (r : Nat) (ww : Nat → Row) (so : Nat) (sc : Src) (pl : Pal) (qo : Qoi) (pn : Pnm) (bm : Bmp) (tg : Tga) (px : Pcx) (fa : A) (hb : aH) (n : Nat) (res : Out Ras Unit) : Option Value → aH → Nat → Prop := fun r1 h2 n2 => ∃ (a : Unit) (s : Ras), res = fok a s ∧ r1 = none ∧ h2 = HC m0 sh (va_up rr r s) ww so sc pl qo pn bm tg px fa hb ∧ n = n2
abbrev Q_X4_colour_7 (m0 : Mnt) (sh : Nat → Nat) (rr : Nat → Ras) (r : Nat) (ww : Nat → Row) (so : Nat) (sc : Src) (pl : Pal) (qo : Qoi) (pn : Pnm) (bm : Bmp) (tg : Tga) (px : Pcx) (fa : A) (hb : aH) (n : Nat) (k : Int32 → Int32 → Ras → Out Ras Unit) : Prop := ∀ (v2 : Int32) (v3 : Int32) (x : Ras) (res : Out Ras Unit), k v2 v3 x = res → res ≠ fno → AW (fun _ _ => True) mX4_colour (rmD 2 0 0) 0 0 (P_X4_colour m0 sh rr r ww so sc pl qo pn bm tg px fa hb n res) (fun _ _ _ => False) 0 0 7 [(0, .ref 28), (1, .ref r), (2, .int v2), (3, .int v3)] [] (HC m0 sh (va_up rr r x) ww so sc pl qo pn bm tg px fa hb) n
abbrev Q_X4_colour_74 (m0 : Mnt) (sh : Nat → Nat) (rr : Nat → Ras) (r : Nat) (ww : Nat → Row) (so : Nat) (sc : Src) (pl : Pal) (qo : Qoi) (pn : Pnm) (bm : Bmp) (tg : Tga) (px : Pcx) (fa : A) (hb : aH) (n : Nat) (k : Int32 → Int32 → Int32 → Ras → Out Ras Unit) : Prop := ∀ (v2 : Int32) (v3 : Int32) (v4 : Int32) (x : Ras) (res : Out Ras Unit), k v2 v3 v4 x = res → res ≠ fno → AW (fun _ _ => True) mX4_colour (rmD 2 0 0) 0 0 (P_X4_colour m0 sh rr r ww so sc pl qo pn bm tg px fa hb n res) (fun _ _ _ => False) 0 0 74 [(0, .ref 28), (1, .ref r), (2, .int v2), (3, .int v3), (4, .int v4)] [] (HC m0 sh (va_up rr r x) ww so sc pl qo pn bm tg px fa hb) n
abbrev Q_X4_colour_104 (m0 : Mnt) (sh : Nat → Nat) (rr : Nat → Ras) (r : Nat) (ww : Nat → Row) (so : Nat) (sc : Src) (pl : Pal) (qo : Qoi) (pn : Pnm) (bm : Bmp) (tg : Tga) (px : Pcx) (fa : A) (hb : aH) (n : Nat) (k : Int32 → Int32 → Int32 → Int32 → Ras → Out Ras Unit) : Prop := ∀ (v2 : Int32) (v3 : Int32) (t0 : Int32) (t1 : Int32) (x : Ras) (res : Out Ras Unit), k v2 v3 t0 t1 x = res → res ≠ fno → AW (fun _ _ => True) mX4_colour (rmD 2 0 0) 0 0 (P_X4_colour m0 sh rr r ww so sc pl qo pn bm tg px fa hb n res) (fun _ _ _ => False) 0 0 104 [(0, .ref 28), (1, .ref r), (2, .int v2), (3, .int v3)] [.int t0, .int t1, .ref r] (HC m0 sh (va_up rr r x) ww so sc pl qo pn bm tg px fa hb) n
abbrev Q_X4_colour_110 (m0 : Mnt) (sh : Nat → Nat) (rr : Nat → Ras) (r : Nat) (ww : Nat → Row) (so : Nat) (sc : Src) (pl : Pal) (qo : Qoi) (pn : Pnm) (bm : Bmp) (tg : Tga) (px : Pcx) (fa : A) (hb : aH) (n : Nat) (k : Int32 → Int32 → Int32 → Ras → Out Ras Unit) : Prop := ∀ (v2 : Int32) (v3 : Int32) (v4 : Int32) (x : Ras) (res : Out Ras Unit), k v2 v3 v4 x = res → res ≠ fno → AW (fun _ _ => True) mX4_colour (rmD 2 0 0) 0 0 (P_X4_colour m0 sh rr r ww so sc pl qo pn bm tg px fa hb n res) (fun _ _ _ => False) 0 0 110 [(0, .ref 28), (1, .ref r), (2, .int v2), (3, .int v3), (4, .int v4)] [] (HC m0 sh (va_up rr r x) ww so sc pl qo pn bm tg px fa hb) n
abbrev Q_X4_colour_126 (m0 : Mnt) (sh : Nat → Nat) (rr : Nat → Ras) (r : Nat) (ww : Nat → Row) (so : Nat) (sc : Src) (pl : Pal) (qo : Qoi) (pn : Pnm) (bm : Bmp) (tg : Tga) (px : Pcx) (fa : A) (hb : aH) (n : Nat) (k : Int32 → Int32 → Ras → Out Ras Unit) : Prop := ∀ (v2 : Int32) (v3 : Int32) (x : Ras) (res : Out Ras Unit), k v2 v3 x = res → res ≠ fno → AW (fun _ _ => True) mX4_colour (rmD 2 0 0) 0 0 (P_X4_colour m0 sh rr r ww so sc pl qo pn bm tg px fa hb n res) (fun _ _ _ => False) 0 0 126 [(0, .ref 28), (1, .ref r), (2, .int v2), (3, .int v3)] [] (HC m0 sh (va_up rr r x) ww so sc pl qo pn bm tg px fa hb) n
def F_X4_colour_126 (px : Pcx) (k7 : Int32 → Int32 → Ras → Out Ras Unit) (v2 : Int32) (v3 : Int32) (x : Ras) : Out Ras Unit := k7 v2 (v3 + 1) x
set_option maxHeartbeats 1000000 in
set_option maxRecDepth 100000 in
theorem b_X4_colour_126 (m0 : Mnt) (sh : Nat → Nat) (rr : Nat → Ras) (r : Nat) (ww : Nat → Row) (so : Nat) (sc : Src) (pl : Pal) (qo : Qoi) (pn : Pnm) (bm : Bmp) (tg : Tga) (px : Pcx) (fa : A) (hb : aH) (n : Nat) (hr : isR r) (k7 : Int32 → Int32 → Ras → Out Ras Unit) (hk7 : Q_X4_colour_7 m0 sh rr r ww so sc pl qo pn bm tg px fa hb n k7) : Q_X4_colour_126 m0 sh rr r ww so sc pl qo pn bm tg px fa hb n (F_X4_colour_126 px k7) := by
  intro v2 v3 x res hE hF
  unfold F_X4_colour_126 at hE
  refine aw_iinc (v := (v3 + 1)) (lv2 := [(3, _), (0, _), (1, _), (2, _)]) dX4_colour_126 rfl (incE (by decide)) (by decide) rfl ?_
  refine aw_goto (tgt := 7) dX4_colour_129 (by decide) ?_
  exact aw_lv _ (List.forall_mem_cons.mpr ⟨rfl, (List.forall_mem_cons.mpr ⟨rfl, (List.forall_mem_cons.mpr ⟨rfl, (List.forall_mem_cons.mpr ⟨rfl, fun _ h => absurd h List.not_mem_nil⟩)⟩)⟩)⟩) (hk7 v2 (v3 + 1) x _ hE hF)
def F_X4_colour_110 (px : Pcx) (k7 : Int32 → Int32 → Ras → Out Ras Unit) (v2 : Int32) (v3 : Int32) (v4 : Int32) (x : Ras) : Out Ras Unit := if inb (v4 &&& 255) 256 then (fon (F_X7_set v3 ((px_col px) (Int32.toNatClampNeg (v4 &&& 255))) x) (fun z123 s123 => F_X4_colour_126 px k7 v2 v3 s123) (fun _ _ => fno)) else fno
set_option maxHeartbeats 1000000 in
set_option maxRecDepth 100000 in
theorem b_X4_colour_110 (m0 : Mnt) (sh : Nat → Nat) (rr : Nat → Ras) (r : Nat) (ww : Nat → Row) (so : Nat) (sc : Src) (pl : Pal) (qo : Qoi) (pn : Pnm) (bm : Bmp) (tg : Tga) (px : Pcx) (fa : A) (hb : aH) (n : Nat) (hr : isR r) (k7 : Int32 → Int32 → Ras → Out Ras Unit) (hk7 : Q_X4_colour_7 m0 sh rr r ww so sc pl qo pn bm tg px fa hb n k7) : Q_X4_colour_110 m0 sh rr r ww so sc pl qo pn bm tg px fa hb n (F_X4_colour_110 px k7) := by
  intro v2 v3 v4 x res hE hF
  unfold F_X4_colour_110 at hE
  refine aw_aload_n dX4_colour_110 rfl ?_
  refine aw_iload_n dX4_colour_111 rfl ?_
  refine aw_aload_n dX4_colour_112 rfl ?_
  refine aw_getf (v := .ref 29) dX4_colour_113 flX4_9_3 at_pcx rfl ?_
  refine aw_iload dX4_colour_116 rfl ?_
  refine aw_sipush (v := 255) dX4_colour_118 (by decide) ?_
  refine aw_iand dX4_colour_121 ?_
  obtain ⟨g122, hE⟩ := fgd hE hF
  refine aw_iald (f := (px_col px)) dX4_colour_122 at_pcxcol (vp_in_iff.mpr g122) ?_
  refine aw_callV dX4_colour_123 (at_ras hr) cvX4_132 rfl (kF_X7_set m0 sh rr r x ww so sc pl qo pn bm tg px fa hb _ hr v3 ((px_col px) (Int32.toNatClampNeg (v4 &&& 255))) (fon_ne hE hF)) rfl (Nat.le_of_ble_eq_true rfl) (by decide) (by decide) (by decide) (by decide) (fun _ _ _ hf => False.elim hf) (fun r123 h123 n123 hp123 => ?_)
  obtain ⟨z123, s123, e123, rfl, rfl, rfl⟩ := hp123
  replace hE := fon_ok e123 hE
  exact aw_lv _ (List.forall_mem_cons.mpr ⟨rfl, (List.forall_mem_cons.mpr ⟨rfl, (List.forall_mem_cons.mpr ⟨rfl, (List.forall_mem_cons.mpr ⟨rfl, fun _ h => absurd h List.not_mem_nil⟩)⟩)⟩)⟩) (b_X4_colour_126 m0 sh rr r ww so sc pl qo pn bm tg px fa hb n hr k7 hk7 v2 v3 s123 _ hE hF)
def F_X4_colour_104 (px : Pcx) (k7 : Int32 → Int32 → Ras → Out Ras Unit) (v2 : Int32) (v3 : Int32) (t0 : Int32) (t1 : Int32) (x : Ras) : Out Ras Unit := fon (F_X7_set t1 t0 x) (fun z104 s104 => F_X4_colour_126 px k7 v2 v3 s104) (fun _ _ => fno)
set_option maxHeartbeats 1000000 in
set_option maxRecDepth 100000 in
theorem b_X4_colour_104 (m0 : Mnt) (sh : Nat → Nat) (rr : Nat → Ras) (r : Nat) (ww : Nat → Row) (so : Nat) (sc : Src) (pl : Pal) (qo : Qoi) (pn : Pnm) (bm : Bmp) (tg : Tga) (px : Pcx) (fa : A) (hb : aH) (n : Nat) (hr : isR r) (k7 : Int32 → Int32 → Ras → Out Ras Unit) (hk7 : Q_X4_colour_7 m0 sh rr r ww so sc pl qo pn bm tg px fa hb n k7) : Q_X4_colour_104 m0 sh rr r ww so sc pl qo pn bm tg px fa hb n (F_X4_colour_104 px k7) := by
  intro v2 v3 t0 t1 x res hE hF
  unfold F_X4_colour_104 at hE
  refine aw_callV dX4_colour_104 (at_ras hr) cvX4_132 rfl (kF_X7_set m0 sh rr r x ww so sc pl qo pn bm tg px fa hb _ hr t1 t0 (fon_ne hE hF)) rfl (Nat.le_of_ble_eq_true rfl) (by decide) (by decide) (by decide) (by decide) (fun _ _ _ hf => False.elim hf) (fun r104 h104 n104 hp104 => ?_)
  obtain ⟨z104, s104, e104, rfl, rfl, rfl⟩ := hp104
  replace hE := fon_ok e104 hE
  refine aw_goto (tgt := 126) dX4_colour_107 (by decide) ?_
  exact aw_lv _ (List.forall_mem_cons.mpr ⟨rfl, (List.forall_mem_cons.mpr ⟨rfl, (List.forall_mem_cons.mpr ⟨rfl, (List.forall_mem_cons.mpr ⟨rfl, fun _ h => absurd h List.not_mem_nil⟩)⟩)⟩)⟩) (b_X4_colour_126 m0 sh rr r ww so sc pl qo pn bm tg px fa hb n hr k7 hk7 v2 v3 s104 _ hE hF)
def F_X4_colour_74 (px : Pcx) (k7 : Int32 → Int32 → Ras → Out Ras Unit) (v2 : Int32) (v3 : Int32) (v4 : Int32) (x : Ras) : Out Ras Unit := if (px_bits px) = 1 then (if (px_planes px) = 1 then (if v4 = 0 then (F_X4_colour_104 px k7 v2 v3 (255 : Int32) v3 x) else (F_X4_colour_104 px k7 v2 v3 (-1 : Int32) v3 x)) else (F_X4_colour_110 px k7 v2 v3 v4 x)) else (F_X4_colour_110 px k7 v2 v3 v4 x)
set_option maxHeartbeats 1000000 in
set_option maxRecDepth 100000 in
theorem b_X4_colour_74 (m0 : Mnt) (sh : Nat → Nat) (rr : Nat → Ras) (r : Nat) (ww : Nat → Row) (so : Nat) (sc : Src) (pl : Pal) (qo : Qoi) (pn : Pnm) (bm : Bmp) (tg : Tga) (px : Pcx) (fa : A) (hb : aH) (n : Nat) (hr : isR r) (k7 : Int32 → Int32 → Ras → Out Ras Unit) (hk7 : Q_X4_colour_7 m0 sh rr r ww so sc pl qo pn bm tg px fa hb n k7) : Q_X4_colour_74 m0 sh rr r ww so sc pl qo pn bm tg px fa hb n (F_X4_colour_74 px k7) := by
  intro v2 v3 v4 x res hE hF
  unfold F_X4_colour_74 at hE
  refine aw_aload_n dX4_colour_74 rfl ?_
  refine aw_getf (v := .int (px_bits px)) dX4_colour_75 flX4_65_3 at_pcx rfl ?_
  refine aw_iconst (v := 1) dX4_colour_78 (by decide) ?_
  refine aw_icmp_ne (tgt := 110) dX4_colour_79 (by decide) (fun c79 => ?_) (fun c79 => ?_)
  · replace hE := fif hE c79
    exact aw_lv _ (List.forall_mem_cons.mpr ⟨rfl, (List.forall_mem_cons.mpr ⟨rfl, (List.forall_mem_cons.mpr ⟨rfl, (List.forall_mem_cons.mpr ⟨rfl, (List.forall_mem_cons.mpr ⟨rfl, fun _ h => absurd h List.not_mem_nil⟩)⟩)⟩)⟩)⟩) (b_X4_colour_110 m0 sh rr r ww so sc pl qo pn bm tg px fa hb n hr k7 hk7 v2 v3 v4 x _ hE hF)
  · replace hE := fit hE c79
    refine aw_aload_n dX4_colour_82 rfl ?_
    refine aw_getf (v := .int (px_planes px)) dX4_colour_83 flX4_68_3 at_pcx rfl ?_
    refine aw_iconst (v := 1) dX4_colour_86 (by decide) ?_
    refine aw_icmp_ne (tgt := 110) dX4_colour_87 (by decide) (fun c87 => ?_) (fun c87 => ?_)
    · replace hE := fif hE c87
      exact aw_lv _ (List.forall_mem_cons.mpr ⟨rfl, (List.forall_mem_cons.mpr ⟨rfl, (List.forall_mem_cons.mpr ⟨rfl, (List.forall_mem_cons.mpr ⟨rfl, (List.forall_mem_cons.mpr ⟨rfl, fun _ h => absurd h List.not_mem_nil⟩)⟩)⟩)⟩)⟩) (b_X4_colour_110 m0 sh rr r ww so sc pl qo pn bm tg px fa hb n hr k7 hk7 v2 v3 v4 x _ hE hF)
    · replace hE := fit hE c87
      refine aw_aload_n dX4_colour_90 rfl ?_
      refine aw_iload_n dX4_colour_91 rfl ?_
      refine aw_iload dX4_colour_92 rfl ?_
      refine aw_if_ne (tgt := 103) dX4_colour_94 (by decide) (fun c94 => ?_) (fun c94 => ?_)
      · replace hE := fif hE c94
        refine aw_iconst (v := (-1)) dX4_colour_103 (by decide) ?_
        exact aw_lv _ (List.forall_mem_cons.mpr ⟨rfl, (List.forall_mem_cons.mpr ⟨rfl, (List.forall_mem_cons.mpr ⟨rfl, (List.forall_mem_cons.mpr ⟨rfl, fun _ h => absurd h List.not_mem_nil⟩)⟩)⟩)⟩) (b_X4_colour_104 m0 sh rr r ww so sc pl qo pn bm tg px fa hb n hr k7 hk7 v2 v3 (-1 : Int32) v3 x _ hE hF)
      · replace hE := fit hE c94
        refine aw_sipush (v := 255) dX4_colour_97 (by decide) ?_
        refine aw_goto (tgt := 104) dX4_colour_100 (by decide) ?_
        exact aw_lv _ (List.forall_mem_cons.mpr ⟨rfl, (List.forall_mem_cons.mpr ⟨rfl, (List.forall_mem_cons.mpr ⟨rfl, (List.forall_mem_cons.mpr ⟨rfl, fun _ h => absurd h List.not_mem_nil⟩)⟩)⟩)⟩) (b_X4_colour_104 m0 sh rr r ww so sc pl qo pn bm tg px fa hb n hr k7 hk7 v2 v3 (255 : Int32) v3 x _ hE hF)
def F_X4_colour_7 (px : Pcx) (k7 : Int32 → Int32 → Ras → Out Ras Unit) (v2 : Int32) (v3 : Int32) (x : Ras) : Out Ras Unit := if v2 ≤ v3 then (fok () x) else (fon (F_X7_get v3 x) (fun z14 s14 => if (px_bits px) = 8 then (if (px_planes px) = 3 then (fon (F_X7_set v3 (F_X10_pixelOf (z14 &&& 255) ((z14 >>> ((8 : Int32) &&& 31)) &&& 255) ((z14 >>> ((16 : Int32) &&& 31)) &&& 255) 255) x) (fun z68 s68 => F_X4_colour_126 px k7 v2 v3 s68) (fun _ _ => fno)) else (F_X4_colour_74 px k7 v2 v3 z14 x)) else (F_X4_colour_74 px k7 v2 v3 z14 x)) (fun _ _ => fno))
set_option maxHeartbeats 1000000 in
set_option maxRecDepth 100000 in
theorem b_X4_colour_7 (m0 : Mnt) (sh : Nat → Nat) (rr : Nat → Ras) (r : Nat) (ww : Nat → Row) (so : Nat) (sc : Src) (pl : Pal) (qo : Qoi) (pn : Pnm) (bm : Bmp) (tg : Tga) (px : Pcx) (fa : A) (hb : aH) (n : Nat) (hr : isR r) (k7 : Int32 → Int32 → Ras → Out Ras Unit) (hk7 : Q_X4_colour_7 m0 sh rr r ww so sc pl qo pn bm tg px fa hb n k7) : Q_X4_colour_7 m0 sh rr r ww so sc pl qo pn bm tg px fa hb n (F_X4_colour_7 px k7) := by
  intro v2 v3 x res hE hF
  unfold F_X4_colour_7 at hE
  refine aw_iload_n dX4_colour_7 rfl ?_
  refine aw_iload_n dX4_colour_8 rfl ?_
  refine aw_icmp_ge (tgt := 132) dX4_colour_9 (by decide) (fun c9 => ?_) (fun c9 => ?_)
  · replace hE := fit hE c9
    exact aw_vret dX4_colour_132 rfl (Nat.zero_le _) (Nat.zero_le _) (Nat.zero_le _) (Nat.zero_le _) ⟨_, _, hE.symm, rfl, rfl, rfl⟩
  · replace hE := fif hE c9
    refine aw_aload_n dX4_colour_12 rfl ?_
    refine aw_iload_n dX4_colour_13 rfl ?_
    refine aw_callV dX4_colour_14 (at_ras hr) cvX4_128 rfl (kF_X7_get m0 sh rr r x ww so sc pl qo pn bm tg px fa hb _ hr v3 (fon_ne hE hF)) rfl (Nat.le_of_ble_eq_true rfl) (by decide) (by decide) (by decide) (by decide) (fun _ _ _ hf => False.elim hf) (fun r14 h14 n14 hp14 => ?_)
    obtain ⟨z14, s14, e14, rfl, rfl, rfl⟩ := hp14
    replace hE := fon_ok e14 hE
    refine aw_istore (lv2 := [(4, _), (0, _), (1, _), (2, _), (3, _)]) dX4_colour_17 (by decide) rfl ?_
    refine aw_aload_n dX4_colour_19 rfl ?_
    refine aw_getf (v := .int (px_bits px)) dX4_colour_20 flX4_65_3 at_pcx rfl ?_
    refine aw_bipush (v := 8) dX4_colour_23 (by decide) ?_
    refine aw_icmp_ne (tgt := 74) dX4_colour_25 (by decide) (fun c25 => ?_) (fun c25 => ?_)
    · replace hE := fif hE c25
      exact aw_lv _ (List.forall_mem_cons.mpr ⟨rfl, (List.forall_mem_cons.mpr ⟨rfl, (List.forall_mem_cons.mpr ⟨rfl, (List.forall_mem_cons.mpr ⟨rfl, (List.forall_mem_cons.mpr ⟨rfl, fun _ h => absurd h List.not_mem_nil⟩)⟩)⟩)⟩)⟩) (b_X4_colour_74 m0 sh rr r ww so sc pl qo pn bm tg px fa hb n hr k7 hk7 v2 v3 z14 x _ hE hF)
    · replace hE := fit hE c25
      refine aw_aload_n dX4_colour_28 rfl ?_
      refine aw_getf (v := .int (px_planes px)) dX4_colour_29 flX4_68_3 at_pcx rfl ?_
      refine aw_iconst (v := 3) dX4_colour_32 (by decide) ?_
      refine aw_icmp_ne (tgt := 74) dX4_colour_33 (by decide) (fun c33 => ?_) (fun c33 => ?_)
      · replace hE := fif hE c33
        exact aw_lv _ (List.forall_mem_cons.mpr ⟨rfl, (List.forall_mem_cons.mpr ⟨rfl, (List.forall_mem_cons.mpr ⟨rfl, (List.forall_mem_cons.mpr ⟨rfl, (List.forall_mem_cons.mpr ⟨rfl, fun _ h => absurd h List.not_mem_nil⟩)⟩)⟩)⟩)⟩) (b_X4_colour_74 m0 sh rr r ww so sc pl qo pn bm tg px fa hb n hr k7 hk7 v2 v3 z14 x _ hE hF)
      · replace hE := fit hE c33
        refine aw_aload_n dX4_colour_36 rfl ?_
        refine aw_iload_n dX4_colour_37 rfl ?_
        refine aw_iload dX4_colour_38 rfl ?_
        refine aw_sipush (v := 255) dX4_colour_40 (by decide) ?_
        refine aw_iand dX4_colour_43 ?_
        refine aw_iload dX4_colour_44 rfl ?_
        refine aw_bipush (v := 8) dX4_colour_46 (by decide) ?_
        refine aw_ishr dX4_colour_48 ?_
        refine aw_sipush (v := 255) dX4_colour_49 (by decide) ?_
        refine aw_iand dX4_colour_52 ?_
        refine aw_iload dX4_colour_53 rfl ?_
        refine aw_bipush (v := 16) dX4_colour_55 (by decide) ?_
        refine aw_ishr dX4_colour_57 ?_
        refine aw_sipush (v := 255) dX4_colour_58 (by decide) ?_
        refine aw_iand dX4_colour_61 ?_
        refine aw_sipush (v := 255) dX4_colour_62 (by decide) ?_
        refine aw_callSN dX4_colour_65  csX4_114 rfl (kF_X10_pixelOf _ _ (z14 &&& 255) ((z14 >>> ((8 : Int32) &&& 31)) &&& 255) ((z14 >>> ((16 : Int32) &&& 31)) &&& 255) 255) rfl (Nat.le_of_ble_eq_true rfl) (by decide) (by decide) (by decide) (by decide)  (fun r65 h65 n65 hp65 => ?_)
        obtain ⟨rfl, rfl, rfl⟩ := hp65
        refine aw_callV dX4_colour_68 (at_ras hr) cvX4_132 rfl (kF_X7_set m0 sh rr r x ww so sc pl qo pn bm tg px fa hb _ hr v3 (F_X10_pixelOf (z14 &&& 255) ((z14 >>> ((8 : Int32) &&& 31)) &&& 255) ((z14 >>> ((16 : Int32) &&& 31)) &&& 255) 255) (fon_ne hE hF)) rfl (Nat.le_of_ble_eq_true rfl) (by decide) (by decide) (by decide) (by decide) (fun _ _ _ hf => False.elim hf) (fun r68 h68 n68 hp68 => ?_)
        obtain ⟨z68, s68, e68, rfl, rfl, rfl⟩ := hp68
        replace hE := fon_ok e68 hE
        refine aw_goto (tgt := 126) dX4_colour_71 (by decide) ?_
        exact aw_lv _ (List.forall_mem_cons.mpr ⟨rfl, (List.forall_mem_cons.mpr ⟨rfl, (List.forall_mem_cons.mpr ⟨rfl, (List.forall_mem_cons.mpr ⟨rfl, fun _ h => absurd h List.not_mem_nil⟩)⟩)⟩)⟩) (b_X4_colour_126 m0 sh rr r ww so sc pl qo pn bm tg px fa hb n hr k7 hk7 v2 v3 s68 _ hE hF)
def F_X4_colour (x : Ras) (px : Pcx) : Out Ras Unit := fon (F_X7_count x) (fun z1 s1 => lp (fun _ _ _ => fno) (F_X4_colour_7 px) FU z1 (0 : Int32) x) (fun _ _ => fno)
set_option maxHeartbeats 1000000 in
set_option maxRecDepth 100000 in
theorem kF_X4_colour (m0 : Mnt) (sh : Nat → Nat) (rr : Nat → Ras) (r : Nat) (x : Ras) (ww : Nat → Row) (so : Nat) (sc : Src) (pl : Pal) (qo : Qoi) (pn : Pnm) (bm : Bmp) (tg : Tga) (px : Pcx) (fa : A) (hb : aH) (n : Nat) (hr : isR r)  (hF : F_X4_colour x px ≠ fno) : AM mX4_colour 2 [.ref 28, .ref r] (HC m0 sh (va_up rr r x) ww so sc pl qo pn bm tg px fa hb) n 0 0 0 0 (P_X4_colour m0 sh rr r ww so sc pl qo pn bm tg px fa hb n (F_X4_colour x px)) (fun _ _ _ => False) := by
  generalize hE : F_X4_colour x px = res at hF ⊢
  refine aw_of (by decide +kernel) rfl (Nat.le_of_ble_eq_true rfl) ?_
  unfold F_X4_colour at hE
  refine aw_aload_n dX4_colour_0 rfl ?_
  refine aw_callV dX4_colour_1 (at_ras hr) cvX4_135 rfl (kF_X7_count m0 sh rr r x ww so sc pl qo pn bm tg px fa hb _ hr  (fon_ne hE hF)) rfl (Nat.le_of_ble_eq_true rfl) (by decide) (by decide) (by decide) (by decide) (fun _ _ _ hf => False.elim hf) (fun r1 h1 n1 hp1 => ?_)
  obtain ⟨z1, s1, e1, rfl, rfl, rfl⟩ := hp1
  replace hE := fon_ok e1 hE
  refine aw_istore_n (lv2 := [(2, _), (0, _), (1, _)]) dX4_colour_4 (by decide) rfl ?_
  refine aw_iconst (v := 0) dX4_colour_5 (by decide) ?_
  refine aw_istore_n (lv2 := [(3, _), (2, _), (0, _), (1, _)]) dX4_colour_6 (by decide) rfl ?_
  exact aw_lv _ (List.forall_mem_cons.mpr ⟨rfl, (List.forall_mem_cons.mpr ⟨rfl, (List.forall_mem_cons.mpr ⟨rfl, (List.forall_mem_cons.mpr ⟨rfl, fun _ h => absurd h List.not_mem_nil⟩)⟩)⟩)⟩) (lp_ind (Q_X4_colour_7 m0 sh rr r ww so sc pl qo pn bm tg px fa hb n) (fun _ _ _ res hq hF => (hF hq.symm).elim) (fun k hk => b_X4_colour_7 m0 sh rr r ww so sc pl qo pn bm tg px fa hb n hr  k hk) FU z1 (0 : Int32) x _ hE hF)
def P_X5_readKind (m0 : Mnt) (sh : Nat → Nat) (rr : Nat → Ras) (ww : Nat → Row) (so : Nat) (pl : Pal) (qo : Qoi) (bm : Bmp) (tg : Tga) (px : Pcx) (fa : A) (hb : aH) (n : Nat) (res : Out (Src × Pnm) Unit) : Option Value → aH → Nat → Prop := fun r1 h2 n2 => ∃ (a : Unit) (s : (Src × Pnm)), res = fok a s ∧ r1 = none ∧ h2 = HC m0 sh rr ww so s.1 pl qo s.2 bm tg px fa hb ∧ n = n2
def X_X5_readKind (m0 : Mnt) (sh : Nat → Nat) (rr : Nat → Ras) (ww : Nat → Row) (so : Nat) (pl : Pal) (qo : Qoi) (bm : Bmp) (tg : Tga) (px : Pcx) (fa : A) (hb : aH) (n : Nat) (res : Out (Src × Pnm) Unit) : String → aH → Nat → Prop := fun E h2 n2 => ∃ s : (Src × Pnm), res = fex E s ∧ h2 = HC m0 sh rr ww so s.1 pl qo s.2 bm tg px fa hb ∧ n = n2
abbrev Q_X5_readKind_33 (m0 : Mnt) (sh : Nat → Nat) (rr : Nat → Ras) (ww : Nat → Row) (so : Nat) (pl : Pal) (qo : Qoi) (bm : Bmp) (tg : Tga) (px : Pcx) (fa : A) (hb : aH) (n : Nat) (k : Int32 → Src → Pnm → Out (Src × Pnm) Unit) : Prop := ∀ (v2 : Int32) (sc : Src) (pn : Pnm) (res : Out (Src × Pnm) Unit), k v2 sc pn = res → res ≠ fno → AW (fun _ _ => True) mX5_readKind (rmD 4 1 6) 0 0 (P_X5_readKind m0 sh rr ww so pl qo bm tg px fa hb n res) (X_X5_readKind m0 sh rr ww so pl qo bm tg px fa hb n res) 0 0 33 [(1, .ref 16), (2, .int v2)] [] (HC m0 sh rr ww so sc pl qo pn bm tg px fa hb) n
def F_X5_readKind_33 (sb : A)  (v2 : Int32) (sc : Src) (pn : Pnm) : Out (Src × Pnm) Unit := fon (F_X8_refuse 2 v2 sc) (fun _ _ => fno) (fun E s36 => fex E (s36, pn))
set_option maxHeartbeats 1000000 in
set_option maxRecDepth 100000 in
theorem b_X5_readKind_33 (m0 : Mnt) (sh : Nat → Nat) (rr : Nat → Ras) (ww : Nat → Row) (so : Nat) (pl : Pal) (qo : Qoi) (bm : Bmp) (tg : Tga) (px : Pcx) (fa : A) (hb : aH) (n : Nat) (hso : isW so)  : Q_X5_readKind_33 m0 sh rr ww so pl qo bm tg px fa hb n (F_X5_readKind_33 (y_b (ww so))) := by
  intro v2 sc pn res hE hF
  unfold F_X5_readKind_33 at hE
  refine aw_aload_n dX5_readKind_33 rfl ?_
  refine aw_iconst (v := 2) dX5_readKind_34 (by decide) ?_
  refine aw_iload_n dX5_readKind_35 rfl ?_
  refine aw_callV dX5_readKind_36 at_src cvX5_72 rfl (kF_X8_refuse m0 sh rr ww so sc pl qo pn bm tg px fa hb _  2 v2 (fon_ne hE hF)) rfl (Nat.le_of_ble_eq_true rfl) (by decide) (by decide) (by decide) (by decide) (fun E h2 n2 hx => aw_out rfl (by decide) (by decide) (by obtain ⟨s36, e36, rfl, rfl⟩ := hx; exact ⟨_, (fon_ex e36 hE).symm, rfl, rfl⟩)) (fun r36 h36 n36 hp36 => ?_)
  obtain ⟨z36, s36, e36, rfl, rfl, rfl⟩ := hp36
  exact (hF (fon_ok e36 hE).symm).elim
def F_X5_readKind (sc : Src) (sb : A) (pn : Pnm) : Out (Src × Pnm) Unit := fon (F_X8_next sc sb) (fun z7 s7 => if (z7 - 48) < 1 then (F_X5_readKind_33 sb (sc_pos sc) s7 ((z7 - 48), (pn_f2 pn), (pn_f3 pn), (pn_np pn))) else (if (z7 - 48) ≤ 6 then (fok () (s7, ((z7 - 48), (pn_f2 pn), (pn_f3 pn), (pn_np pn)))) else (F_X5_readKind_33 sb (sc_pos sc) s7 ((z7 - 48), (pn_f2 pn), (pn_f3 pn), (pn_np pn))))) (fun E s7 => fex E (s7, pn))
set_option maxHeartbeats 1000000 in
set_option maxRecDepth 100000 in
theorem kF_X5_readKind (m0 : Mnt) (sh : Nat → Nat) (rr : Nat → Ras) (ww : Nat → Row) (so : Nat) (sc : Src) (pl : Pal) (qo : Qoi) (pn : Pnm) (bm : Bmp) (tg : Tga) (px : Pcx) (fa : A) (hb : aH) (n : Nat) (hso : isW so)  (hF : F_X5_readKind sc (y_b (ww so)) pn ≠ fno) : AM mX5_readKind 4 [.ref 23, .ref 16] (HC m0 sh rr ww so sc pl qo pn bm tg px fa hb) n 1 6 0 0 (P_X5_readKind m0 sh rr ww so pl qo bm tg px fa hb n (F_X5_readKind sc (y_b (ww so)) pn)) (X_X5_readKind m0 sh rr ww so pl qo bm tg px fa hb n (F_X5_readKind sc (y_b (ww so)) pn)) := by
  generalize hE : F_X5_readKind sc (y_b (ww so)) pn = res at hF ⊢
  refine aw_of (by decide +kernel) rfl (Nat.le_of_ble_eq_true rfl) ?_
  unfold F_X5_readKind at hE
  refine aw_aload_n dX5_readKind_0 rfl ?_
  refine aw_getf (v := .int (sc_pos sc)) dX5_readKind_1 flX5_47_7 at_src rfl ?_
  refine aw_istore_n (lv2 := [(2, _), (0, _), (1, _)]) dX5_readKind_4 (by decide) rfl ?_
  refine aw_aload_n dX5_readKind_5 rfl ?_
  refine aw_aload_n dX5_readKind_6 rfl ?_
  refine aw_callV dX5_readKind_7 at_src cvX5_68 rfl (kF_X8_next m0 sh rr ww so sc pl qo pn bm tg px fa hb _ hso  (fon_ne hE hF)) rfl (Nat.le_of_ble_eq_true rfl) (by decide) (by decide) (by decide) (by decide) (fun E h2 n2 hx => aw_out rfl (by decide) (by decide) (by obtain ⟨s7, e7, rfl, rfl⟩ := hx; exact ⟨_, (fon_ex e7 hE).symm, rfl, rfl⟩)) (fun r7 h7 n7 hp7 => ?_)
  obtain ⟨z7, s7, e7, rfl, rfl, rfl⟩ := hp7
  replace hE := fon_ok e7 hE
  refine aw_bipush (v := 48) dX5_readKind_10 (by decide) ?_
  refine aw_isub dX5_readKind_12 ?_
  refine aw_putf dX5_readKind_13 ptX5_29_4 at_pnm (Nat.le_of_ble_eq_true rfl) ⟨rfl, rfl⟩ ?_
  refine aw_eqh (h2 := HC m0 sh rr ww so s7 pl qo ((z7 - 48), (pn_f2 pn), (pn_f3 pn), (pn_np pn)) bm tg px fa hb) up_pnm ?_
  refine aw_aload_n dX5_readKind_16 rfl ?_
  refine aw_getf (v := .int (z7 - 48)) dX5_readKind_17 flX5_29_4 at_pnm rfl ?_
  refine aw_iconst (v := 1) dX5_readKind_20 (by decide) ?_
  refine aw_icmp_lt (tgt := 33) dX5_readKind_21 (by decide) (fun c21 => ?_) (fun c21 => ?_)
  · replace hE := fit hE c21
    exact aw_lv _ (List.forall_mem_cons.mpr ⟨rfl, (List.forall_mem_cons.mpr ⟨rfl, fun _ h => absurd h List.not_mem_nil⟩)⟩) (b_X5_readKind_33 m0 sh rr ww so pl qo bm tg px fa hb n hso  (sc_pos sc) s7 ((z7 - 48), (pn_f2 pn), (pn_f3 pn), (pn_np pn)) _ hE hF)
  · replace hE := fif hE c21
    refine aw_aload_n dX5_readKind_24 rfl ?_
    refine aw_getf (v := .int (z7 - 48)) dX5_readKind_25 flX5_29_4 at_pnm rfl ?_
    refine aw_bipush (v := 6) dX5_readKind_28 (by decide) ?_
    refine aw_icmp_le (tgt := 39) dX5_readKind_30 (by decide) (fun c30 => ?_) (fun c30 => ?_)
    · replace hE := fit hE c30
      exact aw_vret dX5_readKind_39 rfl (Nat.zero_le _) (Nat.zero_le _) (Nat.zero_le _) (Nat.zero_le _) ⟨_, _, hE.symm, rfl, rfl, rfl⟩
    · replace hE := fif hE c30
      exact aw_lv _ (List.forall_mem_cons.mpr ⟨rfl, (List.forall_mem_cons.mpr ⟨rfl, fun _ h => absurd h List.not_mem_nil⟩)⟩) (b_X5_readKind_33 m0 sh rr ww so pl qo bm tg px fa hb n hso  (sc_pos sc) s7 ((z7 - 48), (pn_f2 pn), (pn_f3 pn), (pn_np pn)) _ hE hF)
def P_X8_peek (m0 : Mnt) (sh : Nat → Nat) (rr : Nat → Ras) (ww : Nat → Row) (so : Nat) (sc : Src) (pl : Pal) (qo : Qoi) (pn : Pnm) (bm : Bmp) (tg : Tga) (px : Pcx) (fa : A) (hb : aH) (n : Nat) (res : Out Unit Int32) : Option Value → aH → Nat → Prop := fun r1 h2 n2 => ∃ (a : Int32) (s : Unit), res = fok a s ∧ r1 = some (.int a) ∧ h2 = HC m0 sh rr ww so sc pl qo pn bm tg px fa hb ∧ n = n2
abbrev Q_X8_peek_34 (m0 : Mnt) (sh : Nat → Nat) (rr : Nat → Ras) (ww : Nat → Row) (so : Nat) (sc : Src) (pl : Pal) (qo : Qoi) (pn : Pnm) (bm : Bmp) (tg : Tga) (px : Pcx) (fa : A) (hb : aH) (n : Nat) (k : Out Unit Int32) : Prop := ∀  (res : Out Unit Int32), k  = res → res ≠ fno → AW (fun _ _ => True) mX8_peek (rmD 1 0 0) 0 0 (P_X8_peek m0 sh rr ww so sc pl qo pn bm tg px fa hb n res) (fun _ _ _ => False) 0 0 34 [] [] (HC m0 sh rr ww so sc pl qo pn bm tg px fa hb) n
def F_X8_peek_34 (sc : Src) (sb : A)   : Out Unit Int32 := fok ((-1) : Int32) ()
set_option maxHeartbeats 1000000 in
set_option maxRecDepth 100000 in
theorem b_X8_peek_34 (m0 : Mnt) (sh : Nat → Nat) (rr : Nat → Ras) (ww : Nat → Row) (so : Nat) (sc : Src) (pl : Pal) (qo : Qoi) (pn : Pnm) (bm : Bmp) (tg : Tga) (px : Pcx) (fa : A) (hb : aH) (n : Nat) (hso : isW so)  : Q_X8_peek_34 m0 sh rr ww so sc pl qo pn bm tg px fa hb n (F_X8_peek_34 sc (y_b (ww so))) := by
  intro res hE hF
  unfold F_X8_peek_34 at hE
  refine aw_iconst (v := (-1)) dX8_peek_34 (by decide) ?_
  exact aw_iret dX8_peek_35 rfl (Nat.zero_le _) (Nat.zero_le _) (Nat.zero_le _) (Nat.zero_le _) ⟨_, _, hE.symm, rfl, rfl, rfl⟩
def F_X8_peek (sc : Src) (sb : A) : Out Unit Int32 := if (sc_pos sc) < 0 then (F_X8_peek_34 sc sb ) else (if (sc_size sc) ≤ (sc_pos sc) then (F_X8_peek_34 sc sb ) else (if inb (sc_pos sc) 65536 then (fok (((sb (Int32.toNatClampNeg (sc_pos sc))) &&& 255) : Int32) ()) else fno))
set_option maxHeartbeats 1000000 in
set_option maxRecDepth 100000 in
theorem kF_X8_peek (m0 : Mnt) (sh : Nat → Nat) (rr : Nat → Ras) (ww : Nat → Row) (so : Nat) (sc : Src) (pl : Pal) (qo : Qoi) (pn : Pnm) (bm : Bmp) (tg : Tga) (px : Pcx) (fa : A) (hb : aH) (n : Nat) (hso : isW so)  (hF : F_X8_peek sc (y_b (ww so)) ≠ fno) : AM mX8_peek 1 [.ref 16] (HC m0 sh rr ww so sc pl qo pn bm tg px fa hb) n 0 0 0 0 (P_X8_peek m0 sh rr ww so sc pl qo pn bm tg px fa hb n (F_X8_peek sc (y_b (ww so)))) (fun _ _ _ => False) := by
  generalize hE : F_X8_peek sc (y_b (ww so)) = res at hF ⊢
  refine aw_of (by decide +kernel) rfl (Nat.le_of_ble_eq_true rfl) ?_
  unfold F_X8_peek at hE
  refine aw_aload_n dX8_peek_0 rfl ?_
  refine aw_getf (v := .int (sc_pos sc)) dX8_peek_1 flX8_25_7 at_src rfl ?_
  refine aw_if_lt (tgt := 34) dX8_peek_4 (by decide) (fun c4 => ?_) (fun c4 => ?_)
  · replace hE := fit hE c4
    exact aw_lv _ (fun _ h => absurd h List.not_mem_nil) (b_X8_peek_34 m0 sh rr ww so sc pl qo pn bm tg px fa hb n hso   _ hE hF)
  · replace hE := fif hE c4
    refine aw_aload_n dX8_peek_7 rfl ?_
    refine aw_getf (v := .int (sc_pos sc)) dX8_peek_8 flX8_25_7 at_src rfl ?_
    refine aw_aload_n dX8_peek_11 rfl ?_
    refine aw_getf (v := .int (sc_size sc)) dX8_peek_12 flX8_22_7 at_src rfl ?_
    refine aw_icmp_ge (tgt := 34) dX8_peek_15 (by decide) (fun c15 => ?_) (fun c15 => ?_)
    · replace hE := fit hE c15
      exact aw_lv _ (fun _ h => absurd h List.not_mem_nil) (b_X8_peek_34 m0 sh rr ww so sc pl qo pn bm tg px fa hb n hso   _ hE hF)
    · replace hE := fif hE c15
      refine aw_aload_n dX8_peek_18 rfl ?_
      refine aw_getf (v := .ref (so + 1)) dX8_peek_19 flX8_15_7 at_src rfl ?_
      refine aw_aload_n dX8_peek_22 rfl ?_
      refine aw_getf (v := .int (sc_pos sc)) dX8_peek_23 flX8_25_7 at_src rfl ?_
      obtain ⟨g26, hE⟩ := fgd hE hF
      refine aw_bald (f := (y_b (ww so))) dX8_peek_26 (at_scells hso) (vp_in_iff.mpr g26) ?_
      refine aw_sipush (v := 255) dX8_peek_27 (by decide) ?_
      refine aw_iand dX8_peek_30 ?_
      refine aw_goto (tgt := 35) dX8_peek_31 (by decide) ?_
      exact aw_iret dX8_peek_35 rfl (Nat.zero_le _) (Nat.zero_le _) (Nat.zero_le _) (Nat.zero_le _) ⟨_, _, hE.symm, rfl, rfl, rfl⟩
def F_X5_isBlank (a0 : Int32) : Int32 := if a0 < 9 then (if a0 = 32 then ((1 : Int32)) else ((0 : Int32))) else (if a0 ≤ 13 then ((1 : Int32)) else (if a0 = 32 then ((1 : Int32)) else ((0 : Int32))))
set_option maxRecDepth 100000 in
theorem kF_X5_isBlank (h : aH) (n : Nat) (a0 : Int32) : AM mX5_isBlank 1 [.int a0] h n 0 0 0 0 (isV (.int (F_X5_isBlank a0)) h n) noX := by
  generalize hE : F_X5_isBlank a0 = res
  refine aw_of (by decide +kernel) rfl (Nat.le_of_ble_eq_true rfl) ?_
  unfold F_X5_isBlank at hE
  refine aw_iload_n dX5_isBlank_0 rfl ?_
  refine aw_bipush (v := 9) dX5_isBlank_1 (by decide) ?_
  refine aw_icmp_lt (tgt := 12) dX5_isBlank_3 (by decide) (fun c3 => ?_) (fun c3 => ?_)
  · replace hE := fit hE c3
    refine aw_iload_n dX5_isBlank_12 rfl ?_
    refine aw_bipush (v := 32) dX5_isBlank_13 (by decide) ?_
    refine aw_icmp_ne (tgt := 22) dX5_isBlank_15 (by decide) (fun c15 => ?_) (fun c15 => ?_)
    · replace hE := fif hE c15
      refine aw_iconst (v := 0) dX5_isBlank_22 (by decide) ?_
      exact aw_zret dX5_isBlank_23 rfl (narB (by decide)) (Nat.zero_le _) (Nat.zero_le _) (Nat.zero_le _) (Nat.zero_le _) ⟨by subst hE; rfl, rfl, rfl⟩
    · replace hE := fit hE c15
      refine aw_iconst (v := 1) dX5_isBlank_18 (by decide) ?_
      refine aw_goto (tgt := 23) dX5_isBlank_19 (by decide) ?_
      exact aw_zret dX5_isBlank_23 rfl (narB (by decide)) (Nat.zero_le _) (Nat.zero_le _) (Nat.zero_le _) (Nat.zero_le _) ⟨by subst hE; rfl, rfl, rfl⟩
  · replace hE := fif hE c3
    refine aw_iload_n dX5_isBlank_6 rfl ?_
    refine aw_bipush (v := 13) dX5_isBlank_7 (by decide) ?_
    refine aw_icmp_le (tgt := 18) dX5_isBlank_9 (by decide) (fun c9 => ?_) (fun c9 => ?_)
    · replace hE := fit hE c9
      refine aw_iconst (v := 1) dX5_isBlank_18 (by decide) ?_
      refine aw_goto (tgt := 23) dX5_isBlank_19 (by decide) ?_
      exact aw_zret dX5_isBlank_23 rfl (narB (by decide)) (Nat.zero_le _) (Nat.zero_le _) (Nat.zero_le _) (Nat.zero_le _) ⟨by subst hE; rfl, rfl, rfl⟩
    · replace hE := fif hE c9
      refine aw_iload_n dX5_isBlank_12 rfl ?_
      refine aw_bipush (v := 32) dX5_isBlank_13 (by decide) ?_
      refine aw_icmp_ne (tgt := 22) dX5_isBlank_15 (by decide) (fun c15 => ?_) (fun c15 => ?_)
      · replace hE := fif hE c15
        refine aw_iconst (v := 0) dX5_isBlank_22 (by decide) ?_
        exact aw_zret dX5_isBlank_23 rfl (narB (by decide)) (Nat.zero_le _) (Nat.zero_le _) (Nat.zero_le _) (Nat.zero_le _) ⟨by subst hE; rfl, rfl, rfl⟩
      · replace hE := fit hE c15
        refine aw_iconst (v := 1) dX5_isBlank_18 (by decide) ?_
        refine aw_goto (tgt := 23) dX5_isBlank_19 (by decide) ?_
        exact aw_zret dX5_isBlank_23 rfl (narB (by decide)) (Nat.zero_le _) (Nat.zero_le _) (Nat.zero_le _) (Nat.zero_le _) ⟨by subst hE; rfl, rfl, rfl⟩
def P_X5_passBlanks (m0 : Mnt) (sh : Nat → Nat) (rr : Nat → Ras) (ww : Nat → Row) (so : Nat) (pl : Pal) (qo : Qoi) (pn : Pnm) (bm : Bmp) (tg : Tga) (px : Pcx) (fa : A) (hb : aH) (n : Nat) (res : Out Src Unit) : Option Value → aH → Nat → Prop := fun r1 h2 n2 => ∃ (a : Unit) (s : Src), res = fok a s ∧ r1 = none ∧ h2 = HC m0 sh rr ww so s pl qo pn bm tg px fa hb ∧ n = n2
abbrev Q_X5_passBlanks_2 (m0 : Mnt) (sh : Nat → Nat) (rr : Nat → Ras) (ww : Nat → Row) (so : Nat) (pl : Pal) (qo : Qoi) (pn : Pnm) (bm : Bmp) (tg : Tga) (px : Pcx) (fa : A) (hb : aH) (n : Nat) (k : Int32 → Src → Out Src Unit) : Prop := ∀ (v1 : Int32) (sc : Src) (res : Out Src Unit), k v1 sc = res → res ≠ fno → AW (fun _ _ => True) mX5_passBlanks (rmD 2 0 0) 0 0 (P_X5_passBlanks m0 sh rr ww so pl qo pn bm tg px fa hb n res) (fun _ _ _ => False) 0 0 2 [(0, .ref 16), (1, .int v1)] [] (HC m0 sh rr ww so sc pl qo pn bm tg px fa hb) n
abbrev Q_X5_passBlanks_33 (m0 : Mnt) (sh : Nat → Nat) (rr : Nat → Ras) (ww : Nat → Row) (so : Nat) (pl : Pal) (qo : Qoi) (pn : Pnm) (bm : Bmp) (tg : Tga) (px : Pcx) (fa : A) (hb : aH) (n : Nat) (k : Int32 → Src → Out Src Unit) : Prop := ∀ (t0 : Int32) (sc : Src) (res : Out Src Unit), k t0 sc = res → res ≠ fno → AW (fun _ _ => True) mX5_passBlanks (rmD 2 0 0) 0 0 (P_X5_passBlanks m0 sh rr ww so pl qo pn bm tg px fa hb n res) (fun _ _ _ => False) 0 0 33 [(0, .ref 16)] [.int t0] (HC m0 sh rr ww so sc pl qo pn bm tg px fa hb) n
abbrev Q_X5_passBlanks_56 (m0 : Mnt) (sh : Nat → Nat) (rr : Nat → Ras) (ww : Nat → Row) (so : Nat) (pl : Pal) (qo : Qoi) (pn : Pnm) (bm : Bmp) (tg : Tga) (px : Pcx) (fa : A) (hb : aH) (n : Nat) (k : Int32 → Src → Out Src Unit) : Prop := ∀ (v1 : Int32) (sc : Src) (res : Out Src Unit), k v1 sc = res → res ≠ fno → AW (fun _ _ => True) mX5_passBlanks (rmD 2 0 0) 0 0 (P_X5_passBlanks m0 sh rr ww so pl qo pn bm tg px fa hb n res) (fun _ _ _ => False) 0 0 56 [(0, .ref 16), (1, .int v1)] [] (HC m0 sh rr ww so sc pl qo pn bm tg px fa hb) n
def F_X5_passBlanks_56 (sb : A) (k2 : Int32 → Src → Out Src Unit) (v1 : Int32) (sc : Src) : Out Src Unit := k2 v1 ((sc_size sc), ((sc_pos sc) + 1), (sc_ft sc), (sc_fp sc))
set_option maxHeartbeats 1000000 in
set_option maxRecDepth 100000 in
theorem b_X5_passBlanks_56 (m0 : Mnt) (sh : Nat → Nat) (rr : Nat → Ras) (ww : Nat → Row) (so : Nat) (pl : Pal) (qo : Qoi) (pn : Pnm) (bm : Bmp) (tg : Tga) (px : Pcx) (fa : A) (hb : aH) (n : Nat) (hso : isW so) (k2 : Int32 → Src → Out Src Unit) (hk2 : Q_X5_passBlanks_2 m0 sh rr ww so pl qo pn bm tg px fa hb n k2) : Q_X5_passBlanks_56 m0 sh rr ww so pl qo pn bm tg px fa hb n (F_X5_passBlanks_56 (y_b (ww so)) k2) := by
  intro v1 sc res hE hF
  unfold F_X5_passBlanks_56 at hE
  refine aw_aload_n dX5_passBlanks_56 rfl ?_
  refine aw_dup dX5_passBlanks_57 rfl ?_
  refine aw_getf (v := .int (sc_pos sc)) dX5_passBlanks_58 flX5_47_7 at_src rfl ?_
  refine aw_iconst (v := 1) dX5_passBlanks_61 (by decide) ?_
  refine aw_iadd dX5_passBlanks_62 ?_
  refine aw_putf dX5_passBlanks_63 ptX5_47_7 at_src (Nat.le_of_ble_eq_true rfl) ⟨rfl, rfl⟩ ?_
  refine aw_eqh (h2 := HC m0 sh rr ww so ((sc_size sc), ((sc_pos sc) + 1), (sc_ft sc), (sc_fp sc)) pl qo pn bm tg px fa hb) up_src ?_
  refine aw_goto (tgt := 2) dX5_passBlanks_66 (by decide) ?_
  exact aw_lv _ (List.forall_mem_cons.mpr ⟨rfl, (List.forall_mem_cons.mpr ⟨rfl, fun _ h => absurd h List.not_mem_nil⟩)⟩) (hk2 v1 ((sc_size sc), ((sc_pos sc) + 1), (sc_ft sc), (sc_fp sc)) _ hE hF)
def F_X5_passBlanks_33 (sb : A) (k2 : Int32 → Src → Out Src Unit) (t0 : Int32) (sc : Src) : Out Src Unit := F_X5_passBlanks_56 sb k2 t0 sc
set_option maxHeartbeats 1000000 in
set_option maxRecDepth 100000 in
theorem b_X5_passBlanks_33 (m0 : Mnt) (sh : Nat → Nat) (rr : Nat → Ras) (ww : Nat → Row) (so : Nat) (pl : Pal) (qo : Qoi) (pn : Pnm) (bm : Bmp) (tg : Tga) (px : Pcx) (fa : A) (hb : aH) (n : Nat) (hso : isW so) (k2 : Int32 → Src → Out Src Unit) (hk2 : Q_X5_passBlanks_2 m0 sh rr ww so pl qo pn bm tg px fa hb n k2) : Q_X5_passBlanks_33 m0 sh rr ww so pl qo pn bm tg px fa hb n (F_X5_passBlanks_33 (y_b (ww so)) k2) := by
  intro t0 sc res hE hF
  unfold F_X5_passBlanks_33 at hE
  refine aw_istore_n (lv2 := [(1, _), (0, _)]) dX5_passBlanks_33 (by decide) rfl ?_
  refine aw_goto (tgt := 56) dX5_passBlanks_34 (by decide) ?_
  exact aw_lv _ (List.forall_mem_cons.mpr ⟨rfl, (List.forall_mem_cons.mpr ⟨rfl, fun _ h => absurd h List.not_mem_nil⟩)⟩) (b_X5_passBlanks_56 m0 sh rr ww so pl qo pn bm tg px fa hb n hso k2 hk2 t0 sc _ hE hF)
def F_X5_passBlanks_2 (sb : A) (k2 : Int32 → Src → Out Src Unit) (v1 : Int32) (sc : Src) : Out Src Unit := if (sc_size sc) ≤ (sc_pos sc) then (fok () sc) else (fon (F_X8_peek sc sb) (fun z14 s14 => if v1 = 0 then (if z14 = 35 then (F_X5_passBlanks_56 sb k2 (1 : Int32) sc) else (if (F_X5_isBlank z14) = 0 then (fok () sc) else (F_X5_passBlanks_56 sb k2 v1 sc))) else (if z14 = 10 then (F_X5_passBlanks_33 sb k2 (0 : Int32) sc) else (F_X5_passBlanks_33 sb k2 (1 : Int32) sc))) (fun _ _ => fno))
set_option maxHeartbeats 1000000 in
set_option maxRecDepth 100000 in
theorem b_X5_passBlanks_2 (m0 : Mnt) (sh : Nat → Nat) (rr : Nat → Ras) (ww : Nat → Row) (so : Nat) (pl : Pal) (qo : Qoi) (pn : Pnm) (bm : Bmp) (tg : Tga) (px : Pcx) (fa : A) (hb : aH) (n : Nat) (hso : isW so) (k2 : Int32 → Src → Out Src Unit) (hk2 : Q_X5_passBlanks_2 m0 sh rr ww so pl qo pn bm tg px fa hb n k2) : Q_X5_passBlanks_2 m0 sh rr ww so pl qo pn bm tg px fa hb n (F_X5_passBlanks_2 (y_b (ww so)) k2) := by
  intro v1 sc res hE hF
  unfold F_X5_passBlanks_2 at hE
  refine aw_aload_n dX5_passBlanks_2 rfl ?_
  refine aw_getf (v := .int (sc_pos sc)) dX5_passBlanks_3 flX5_47_7 at_src rfl ?_
  refine aw_aload_n dX5_passBlanks_6 rfl ?_
  refine aw_getf (v := .int (sc_size sc)) dX5_passBlanks_7 flX5_91_7 at_src rfl ?_
  refine aw_icmp_ge (tgt := 69) dX5_passBlanks_10 (by decide) (fun c10 => ?_) (fun c10 => ?_)
  · replace hE := fit hE c10
    exact aw_vret dX5_passBlanks_69 rfl (Nat.zero_le _) (Nat.zero_le _) (Nat.zero_le _) (Nat.zero_le _) ⟨_, _, hE.symm, rfl, rfl, rfl⟩
  · replace hE := fif hE c10
    refine aw_aload_n dX5_passBlanks_13 rfl ?_
    refine aw_callV dX5_passBlanks_14 at_src cvX5_88 rfl (kF_X8_peek m0 sh rr ww so sc pl qo pn bm tg px fa hb _ hso  (fon_ne hE hF)) rfl (Nat.le_of_ble_eq_true rfl) (by decide) (by decide) (by decide) (by decide) (fun _ _ _ hf => False.elim hf) (fun r14 h14 n14 hp14 => ?_)
    obtain ⟨z14, s14, e14, rfl, rfl, rfl⟩ := hp14
    replace hE := fon_ok e14 hE
    refine aw_istore_n (lv2 := [(2, _), (0, _), (1, _)]) dX5_passBlanks_17 (by decide) rfl ?_
    refine aw_iload_n dX5_passBlanks_18 rfl ?_
    refine aw_if_eq (tgt := 37) dX5_passBlanks_19 (by decide) (fun c19 => ?_) (fun c19 => ?_)
    · replace hE := fit hE c19
      refine aw_iload_n dX5_passBlanks_37 rfl ?_
      refine aw_bipush (v := 35) dX5_passBlanks_38 (by decide) ?_
      refine aw_icmp_ne (tgt := 48) dX5_passBlanks_40 (by decide) (fun c40 => ?_) (fun c40 => ?_)
      · replace hE := fif hE c40
        refine aw_iload_n dX5_passBlanks_48 rfl ?_
        refine aw_callS dX5_passBlanks_49  csX5_84 rfl (kF_X5_isBlank _ _ z14) rfl (Nat.le_of_ble_eq_true rfl) (by decide) (by decide) (by decide) (by decide) (fun _ _ _ hf => False.elim hf) (fun r49 h49 n49 hp49 => ?_)
        obtain ⟨rfl, rfl, rfl⟩ := hp49
        refine aw_if_ne (tgt := 56) dX5_passBlanks_52 (by decide) (fun c52 => ?_) (fun c52 => ?_)
        · replace hE := fif hE c52
          exact aw_lv _ (List.forall_mem_cons.mpr ⟨rfl, (List.forall_mem_cons.mpr ⟨rfl, fun _ h => absurd h List.not_mem_nil⟩)⟩) (b_X5_passBlanks_56 m0 sh rr ww so pl qo pn bm tg px fa hb n hso k2 hk2 v1 sc _ hE hF)
        · replace hE := fit hE c52
          exact aw_vret dX5_passBlanks_55 rfl (Nat.zero_le _) (Nat.zero_le _) (Nat.zero_le _) (Nat.zero_le _) ⟨_, _, hE.symm, rfl, rfl, rfl⟩
      · replace hE := fit hE c40
        refine aw_iconst (v := 1) dX5_passBlanks_43 (by decide) ?_
        refine aw_istore_n (lv2 := [(1, _), (2, _), (0, _)]) dX5_passBlanks_44 (by decide) rfl ?_
        refine aw_goto (tgt := 56) dX5_passBlanks_45 (by decide) ?_
        exact aw_lv _ (List.forall_mem_cons.mpr ⟨rfl, (List.forall_mem_cons.mpr ⟨rfl, fun _ h => absurd h List.not_mem_nil⟩)⟩) (b_X5_passBlanks_56 m0 sh rr ww so pl qo pn bm tg px fa hb n hso k2 hk2 (1 : Int32) sc _ hE hF)
    · replace hE := fif hE c19
      refine aw_iload_n dX5_passBlanks_22 rfl ?_
      refine aw_bipush (v := 10) dX5_passBlanks_23 (by decide) ?_
      refine aw_icmp_eq (tgt := 32) dX5_passBlanks_25 (by decide) (fun c25 => ?_) (fun c25 => ?_)
      · replace hE := fit hE c25
        refine aw_iconst (v := 0) dX5_passBlanks_32 (by decide) ?_
        exact aw_lv _ (List.forall_mem_cons.mpr ⟨rfl, fun _ h => absurd h List.not_mem_nil⟩) (b_X5_passBlanks_33 m0 sh rr ww so pl qo pn bm tg px fa hb n hso k2 hk2 (0 : Int32) sc _ hE hF)
      · replace hE := fif hE c25
        refine aw_iconst (v := 1) dX5_passBlanks_28 (by decide) ?_
        refine aw_goto (tgt := 33) dX5_passBlanks_29 (by decide) ?_
        exact aw_lv _ (List.forall_mem_cons.mpr ⟨rfl, fun _ h => absurd h List.not_mem_nil⟩) (b_X5_passBlanks_33 m0 sh rr ww so pl qo pn bm tg px fa hb n hso k2 hk2 (1 : Int32) sc _ hE hF)
def F_X5_passBlanks (sc : Src) (sb : A) : Out Src Unit := lp (fun _ _ => fno) (F_X5_passBlanks_2 sb) FU (0 : Int32) sc
set_option maxHeartbeats 1000000 in
set_option maxRecDepth 100000 in
theorem kF_X5_passBlanks (m0 : Mnt) (sh : Nat → Nat) (rr : Nat → Ras) (ww : Nat → Row) (so : Nat) (sc : Src) (pl : Pal) (qo : Qoi) (pn : Pnm) (bm : Bmp) (tg : Tga) (px : Pcx) (fa : A) (hb : aH) (n : Nat) (hso : isW so)  (hF : F_X5_passBlanks sc (y_b (ww so)) ≠ fno) : AM mX5_passBlanks 2 [.ref 16] (HC m0 sh rr ww so sc pl qo pn bm tg px fa hb) n 0 0 0 0 (P_X5_passBlanks m0 sh rr ww so pl qo pn bm tg px fa hb n (F_X5_passBlanks sc (y_b (ww so)))) (fun _ _ _ => False) := by
  generalize hE : F_X5_passBlanks sc (y_b (ww so)) = res at hF ⊢
  refine aw_of (by decide +kernel) rfl (Nat.le_of_ble_eq_true rfl) ?_
  unfold F_X5_passBlanks at hE
  refine aw_iconst (v := 0) dX5_passBlanks_0 (by decide) ?_
  refine aw_istore_n (lv2 := [(1, _), (0, _)]) dX5_passBlanks_1 (by decide) rfl ?_
  exact aw_lv _ (List.forall_mem_cons.mpr ⟨rfl, (List.forall_mem_cons.mpr ⟨rfl, fun _ h => absurd h List.not_mem_nil⟩)⟩) (lp_ind (Q_X5_passBlanks_2 m0 sh rr ww so pl qo pn bm tg px fa hb n) (fun _ _ res hq hF => (hF hq.symm).elim) (fun k hk => b_X5_passBlanks_2 m0 sh rr ww so pl qo pn bm tg px fa hb n hso  k hk) FU (0 : Int32) sc _ hE hF)
def F_X5_isDigit (a0 : Int32) : Int32 := if a0 < 48 then ((0 : Int32)) else (if 57 < a0 then ((0 : Int32)) else ((1 : Int32)))
set_option maxRecDepth 100000 in
theorem kF_X5_isDigit (h : aH) (n : Nat) (a0 : Int32) : AM mX5_isDigit 1 [.int a0] h n 0 0 0 0 (isV (.int (F_X5_isDigit a0)) h n) noX := by
  generalize hE : F_X5_isDigit a0 = res
  refine aw_of (by decide +kernel) rfl (Nat.le_of_ble_eq_true rfl) ?_
  unfold F_X5_isDigit at hE
  refine aw_iload_n dX5_isDigit_0 rfl ?_
  refine aw_bipush (v := 48) dX5_isDigit_1 (by decide) ?_
  refine aw_icmp_lt (tgt := 16) dX5_isDigit_3 (by decide) (fun c3 => ?_) (fun c3 => ?_)
  · replace hE := fit hE c3
    refine aw_iconst (v := 0) dX5_isDigit_16 (by decide) ?_
    exact aw_zret dX5_isDigit_17 rfl (narB (by decide)) (Nat.zero_le _) (Nat.zero_le _) (Nat.zero_le _) (Nat.zero_le _) ⟨by subst hE; rfl, rfl, rfl⟩
  · replace hE := fif hE c3
    refine aw_iload_n dX5_isDigit_6 rfl ?_
    refine aw_bipush (v := 57) dX5_isDigit_7 (by decide) ?_
    refine aw_icmp_gt (tgt := 16) dX5_isDigit_9 (by decide) (fun c9 => ?_) (fun c9 => ?_)
    · replace hE := fit hE c9
      refine aw_iconst (v := 0) dX5_isDigit_16 (by decide) ?_
      exact aw_zret dX5_isDigit_17 rfl (narB (by decide)) (Nat.zero_le _) (Nat.zero_le _) (Nat.zero_le _) (Nat.zero_le _) ⟨by subst hE; rfl, rfl, rfl⟩
    · replace hE := fif hE c9
      refine aw_iconst (v := 1) dX5_isDigit_12 (by decide) ?_
      refine aw_goto (tgt := 17) dX5_isDigit_13 (by decide) ?_
      exact aw_zret dX5_isDigit_17 rfl (narB (by decide)) (Nat.zero_le _) (Nat.zero_le _) (Nat.zero_le _) (Nat.zero_le _) ⟨by subst hE; rfl, rfl, rfl⟩
def P_X5_askNumber (m0 : Mnt) (sh : Nat → Nat) (rr : Nat → Ras) (ww : Nat → Row) (so : Nat) (pl : Pal) (qo : Qoi) (pn : Pnm) (bm : Bmp) (tg : Tga) (px : Pcx) (fa : A) (hb : aH) (n : Nat) (res : Out Src Unit) : Option Value → aH → Nat → Prop := fun r1 h2 n2 => ∃ (a : Unit) (s : Src), res = fok a s ∧ r1 = none ∧ h2 = HC m0 sh rr ww so s pl qo pn bm tg px fa hb ∧ n = n2
def X_X5_askNumber (m0 : Mnt) (sh : Nat → Nat) (rr : Nat → Ras) (ww : Nat → Row) (so : Nat) (pl : Pal) (qo : Qoi) (pn : Pnm) (bm : Bmp) (tg : Tga) (px : Pcx) (fa : A) (hb : aH) (n : Nat) (res : Out Src Unit) : String → aH → Nat → Prop := fun E h2 n2 => ∃ s : Src, res = fex E s ∧ h2 = HC m0 sh rr ww so s pl qo pn bm tg px fa hb ∧ n = n2
abbrev Q_X5_askNumber_10 (m0 : Mnt) (sh : Nat → Nat) (rr : Nat → Ras) (ww : Nat → Row) (so : Nat) (pl : Pal) (qo : Qoi) (pn : Pnm) (bm : Bmp) (tg : Tga) (px : Pcx) (fa : A) (hb : aH) (n : Nat) (k : Src → Out Src Unit) : Prop := ∀ (sc : Src) (res : Out Src Unit), k sc = res → res ≠ fno → AW (fun _ _ => True) mX5_askNumber (rmD 4 1 6) 0 0 (P_X5_askNumber m0 sh rr ww so pl qo pn bm tg px fa hb n res) (X_X5_askNumber m0 sh rr ww so pl qo pn bm tg px fa hb n res) 0 0 10 [(0, .ref 23), (1, .ref 16)] [] (HC m0 sh rr ww so sc pl qo pn bm tg px fa hb) n
def F_X5_askNumber_10 (pn : Pnm)  (sc : Src) : Out Src Unit := fon (F_X8_refuse 2 (pn_np pn) sc) (fun _ _ => fno) (fun E s16 => fex E s16)
set_option maxHeartbeats 1000000 in
set_option maxRecDepth 100000 in
theorem b_X5_askNumber_10 (m0 : Mnt) (sh : Nat → Nat) (rr : Nat → Ras) (ww : Nat → Row) (so : Nat) (pl : Pal) (qo : Qoi) (pn : Pnm) (bm : Bmp) (tg : Tga) (px : Pcx) (fa : A) (hb : aH) (n : Nat)   : Q_X5_askNumber_10 m0 sh rr ww so pl qo pn bm tg px fa hb n (F_X5_askNumber_10 pn) := by
  intro sc res hE hF
  unfold F_X5_askNumber_10 at hE
  refine aw_aload_n dX5_askNumber_10 rfl ?_
  refine aw_iconst (v := 2) dX5_askNumber_11 (by decide) ?_
  refine aw_aload_n dX5_askNumber_12 rfl ?_
  refine aw_getf (v := .int (pn_np pn)) dX5_askNumber_13 flX5_77_4 at_pnm rfl ?_
  refine aw_callV dX5_askNumber_16 at_src cvX5_72 rfl (kF_X8_refuse m0 sh rr ww so sc pl qo pn bm tg px fa hb _  2 (pn_np pn) (fon_ne hE hF)) rfl (Nat.le_of_ble_eq_true rfl) (by decide) (by decide) (by decide) (by decide) (fun E h2 n2 hx => aw_out rfl (by decide) (by decide) (by obtain ⟨s16, e16, rfl, rfl⟩ := hx; exact ⟨_, (fon_ex e16 hE).symm, rfl, rfl⟩)) (fun r16 h16 n16 hp16 => ?_)
  obtain ⟨z16, s16, e16, rfl, rfl, rfl⟩ := hp16
  exact (hF (fon_ok e16 hE).symm).elim
def F_X5_askNumber (a2 : Int32) (a3 : Int32) (sc : Src) (pn : Pnm) : Out Src Unit := if a2 < 1 then (F_X5_askNumber_10 pn sc) else (if a2 ≤ a3 then (fok () sc) else (F_X5_askNumber_10 pn sc))
set_option maxHeartbeats 1000000 in
set_option maxRecDepth 100000 in
theorem kF_X5_askNumber (m0 : Mnt) (sh : Nat → Nat) (rr : Nat → Ras) (ww : Nat → Row) (so : Nat) (sc : Src) (pl : Pal) (qo : Qoi) (pn : Pnm) (bm : Bmp) (tg : Tga) (px : Pcx) (fa : A) (hb : aH) (n : Nat)  (a2 : Int32) (a3 : Int32) (hF : F_X5_askNumber a2 a3 sc pn ≠ fno) : AM mX5_askNumber 4 [.ref 23, .ref 16, .int a2, .int a3] (HC m0 sh rr ww so sc pl qo pn bm tg px fa hb) n 1 6 0 0 (P_X5_askNumber m0 sh rr ww so pl qo pn bm tg px fa hb n (F_X5_askNumber a2 a3 sc pn)) (X_X5_askNumber m0 sh rr ww so pl qo pn bm tg px fa hb n (F_X5_askNumber a2 a3 sc pn)) := by
  generalize hE : F_X5_askNumber a2 a3 sc pn = res at hF ⊢
  refine aw_of (by decide +kernel) rfl (Nat.le_of_ble_eq_true rfl) ?_
  unfold F_X5_askNumber at hE
  refine aw_iload_n dX5_askNumber_0 rfl ?_
  refine aw_iconst (v := 1) dX5_askNumber_1 (by decide) ?_
  refine aw_icmp_lt (tgt := 10) dX5_askNumber_2 (by decide) (fun c2 => ?_) (fun c2 => ?_)
  · replace hE := fit hE c2
    exact aw_lv _ (List.forall_mem_cons.mpr ⟨rfl, (List.forall_mem_cons.mpr ⟨rfl, fun _ h => absurd h List.not_mem_nil⟩)⟩) (b_X5_askNumber_10 m0 sh rr ww so pl qo pn bm tg px fa hb n   sc _ hE hF)
  · replace hE := fif hE c2
    refine aw_iload_n dX5_askNumber_5 rfl ?_
    refine aw_iload_n dX5_askNumber_6 rfl ?_
    refine aw_icmp_le (tgt := 19) dX5_askNumber_7 (by decide) (fun c7 => ?_) (fun c7 => ?_)
    · replace hE := fit hE c7
      exact aw_vret dX5_askNumber_19 rfl (Nat.zero_le _) (Nat.zero_le _) (Nat.zero_le _) (Nat.zero_le _) ⟨_, _, hE.symm, rfl, rfl, rfl⟩
    · replace hE := fif hE c7
      exact aw_lv _ (List.forall_mem_cons.mpr ⟨rfl, (List.forall_mem_cons.mpr ⟨rfl, fun _ h => absurd h List.not_mem_nil⟩)⟩) (b_X5_askNumber_10 m0 sh rr ww so pl qo pn bm tg px fa hb n   sc _ hE hF)
