def P_X10_takeIn (ww : Nat → Row) (pl : Pal) (hb : aH) (o : Nat) (n : Nat) (res : Out (Mnt × (Nat → Nat) × (Nat → Ras) × Nat × Src × Qoi × Pnm × Bmp × Tga × Pcx × A) Int32) : Option Value → aH → Nat → Prop := fun r1 h2 n2 => ∃ (a : Int32) (s : (Mnt × (Nat → Nat) × (Nat → Ras) × Nat × Src × Qoi × Pnm × Bmp × Tga × Pcx × A)), res = fok a s ∧ r1 = some (.int a) ∧ h2 = HC s.1 s.2.1 s.2.2.1 ww s.2.2.2.1 s.2.2.2.2.1 pl s.2.2.2.2.2.1 s.2.2.2.2.2.2.1 s.2.2.2.2.2.2.2.1 s.2.2.2.2.2.2.2.2.1 s.2.2.2.2.2.2.2.2.2.1 s.2.2.2.2.2.2.2.2.2.2 hb ∧ n = n2
abbrev Q_X10_takeIn_9 (ww : Nat → Row) (pl : Pal) (hb : aH) (o : Nat) (n : Nat) (k : Mnt → (Nat → Nat) → (Nat → Ras) → Nat → Src → Qoi → Pnm → Bmp → Tga → Pcx → A → Out (Mnt × (Nat → Nat) × (Nat → Ras) × Nat × Src × Qoi × Pnm × Bmp × Tga × Pcx × A) Int32) : Prop := ∀ (m0 : Mnt) (sh : (Nat → Nat)) (rr : (Nat → Ras)) (so : Nat) (sc : Src) (qo : Qoi) (pn : Pnm) (bm : Bmp) (tg : Tga) (px : Pcx) (fa : A) (res : Out (Mnt × (Nat → Nat) × (Nat → Ras) × Nat × Src × Qoi × Pnm × Bmp × Tga × Pcx × A) Int32), k m0 sh rr so sc qo pn bm tg px fa = res → res ≠ fno → AW (fun _ _ => True) mX10_takeIn (rmD 8 1 6) (gT res) (6 * gT res) (P_X10_takeIn ww pl hb o n res) (fun _ _ _ => False) 0 0 9 [] [] (HC m0 sh rr ww so sc pl qo pn bm tg px fa hb) n
abbrev Q_X10_takeIn_10016 (ww : Nat → Row) (pl : Pal) (hb : aH) (o : Nat) (n : Nat) (k : Int32 → Int32 → Mnt → (Nat → Nat) → (Nat → Ras) → Nat → Src → Qoi → Pnm → Bmp → Tga → Pcx → A → Out (Mnt × (Nat → Nat) × (Nat → Ras) × Nat × Src × Qoi × Pnm × Bmp × Tga × Pcx × A) Int32) : Prop := ∀ (v2 : Int32) (v3 : Int32) (m0 : Mnt) (sh : (Nat → Nat)) (rr : (Nat → Ras)) (so : Nat) (sc : Src) (qo : Qoi) (pn : Pnm) (bm : Bmp) (tg : Tga) (px : Pcx) (fa : A) (res : Out (Mnt × (Nat → Nat) × (Nat → Ras) × Nat × Src × Qoi × Pnm × Bmp × Tga × Pcx × A) Int32), k v2 v3 m0 sh rr so sc qo pn bm tg px fa = res → res ≠ fno → AW (fun _ _ => True) mX10_takeIn (rmD 8 1 6) (gT res) (6 * gT res) (P_X10_takeIn ww pl hb o n res) (fun _ _ _ => False) 0 0 17 [(0, .ref 0), (1, .ref o), (2, .int v2), (3, .int v3)] [.ref 21] (HC m0 sh rr ww so sc pl qo pn bm tg px fa hb) n
abbrev Q_X10_takeIn_20016 (ww : Nat → Row) (pl : Pal) (hb : aH) (o : Nat) (n : Nat) (k : Int32 → Int32 → Mnt → (Nat → Nat) → (Nat → Ras) → Nat → Src → Qoi → Pnm → Bmp → Tga → Pcx → A → Out (Mnt × (Nat → Nat) × (Nat → Ras) × Nat × Src × Qoi × Pnm × Bmp × Tga × Pcx × A) Int32) : Prop := ∀ (v2 : Int32) (v3 : Int32) (m0 : Mnt) (sh : (Nat → Nat)) (rr : (Nat → Ras)) (so : Nat) (sc : Src) (qo : Qoi) (pn : Pnm) (bm : Bmp) (tg : Tga) (px : Pcx) (fa : A) (res : Out (Mnt × (Nat → Nat) × (Nat → Ras) × Nat × Src × Qoi × Pnm × Bmp × Tga × Pcx × A) Int32), k v2 v3 m0 sh rr so sc qo pn bm tg px fa = res → res ≠ fno → AW (fun _ _ => True) mX10_takeIn (rmD 8 1 6) (gT res) (6 * gT res) (P_X10_takeIn ww pl hb o n res) (fun _ _ _ => False) 0 0 17 [(0, .ref 0), (1, .ref o), (2, .int v2), (3, .int v3)] [.ref 23] (HC m0 sh rr ww so sc pl qo pn bm tg px fa hb) n
abbrev Q_X10_takeIn_30016 (ww : Nat → Row) (pl : Pal) (hb : aH) (o : Nat) (n : Nat) (k : Int32 → Int32 → Mnt → (Nat → Nat) → (Nat → Ras) → Nat → Src → Qoi → Pnm → Bmp → Tga → Pcx → A → Out (Mnt × (Nat → Nat) × (Nat → Ras) × Nat × Src × Qoi × Pnm × Bmp × Tga × Pcx × A) Int32) : Prop := ∀ (v2 : Int32) (v3 : Int32) (m0 : Mnt) (sh : (Nat → Nat)) (rr : (Nat → Ras)) (so : Nat) (sc : Src) (qo : Qoi) (pn : Pnm) (bm : Bmp) (tg : Tga) (px : Pcx) (fa : A) (res : Out (Mnt × (Nat → Nat) × (Nat → Ras) × Nat × Src × Qoi × Pnm × Bmp × Tga × Pcx × A) Int32), k v2 v3 m0 sh rr so sc qo pn bm tg px fa = res → res ≠ fno → AW (fun _ _ => True) mX10_takeIn (rmD 8 1 6) (gT res) (6 * gT res) (P_X10_takeIn ww pl hb o n res) (fun _ _ _ => False) 0 0 17 [(0, .ref 0), (1, .ref o), (2, .int v2), (3, .int v3)] [.ref 24] (HC m0 sh rr ww so sc pl qo pn bm tg px fa hb) n
abbrev Q_X10_takeIn_40016 (ww : Nat → Row) (pl : Pal) (hb : aH) (o : Nat) (n : Nat) (k : Int32 → Int32 → Mnt → (Nat → Nat) → (Nat → Ras) → Nat → Src → Qoi → Pnm → Bmp → Tga → Pcx → A → Out (Mnt × (Nat → Nat) × (Nat → Ras) × Nat × Src × Qoi × Pnm × Bmp × Tga × Pcx × A) Int32) : Prop := ∀ (v2 : Int32) (v3 : Int32) (m0 : Mnt) (sh : (Nat → Nat)) (rr : (Nat → Ras)) (so : Nat) (sc : Src) (qo : Qoi) (pn : Pnm) (bm : Bmp) (tg : Tga) (px : Pcx) (fa : A) (res : Out (Mnt × (Nat → Nat) × (Nat → Ras) × Nat × Src × Qoi × Pnm × Bmp × Tga × Pcx × A) Int32), k v2 v3 m0 sh rr so sc qo pn bm tg px fa = res → res ≠ fno → AW (fun _ _ => True) mX10_takeIn (rmD 8 1 6) (gT res) (6 * gT res) (P_X10_takeIn ww pl hb o n res) (fun _ _ _ => False) 0 0 17 [(0, .ref 0), (1, .ref o), (2, .int v2), (3, .int v3)] [.ref 26] (HC m0 sh rr ww so sc pl qo pn bm tg px fa hb) n
abbrev Q_X10_takeIn_50016 (ww : Nat → Row) (pl : Pal) (hb : aH) (o : Nat) (n : Nat) (k : Int32 → Int32 → Mnt → (Nat → Nat) → (Nat → Ras) → Nat → Src → Qoi → Pnm → Bmp → Tga → Pcx → A → Out (Mnt × (Nat → Nat) × (Nat → Ras) × Nat × Src × Qoi × Pnm × Bmp × Tga × Pcx × A) Int32) : Prop := ∀ (v2 : Int32) (v3 : Int32) (m0 : Mnt) (sh : (Nat → Nat)) (rr : (Nat → Ras)) (so : Nat) (sc : Src) (qo : Qoi) (pn : Pnm) (bm : Bmp) (tg : Tga) (px : Pcx) (fa : A) (res : Out (Mnt × (Nat → Nat) × (Nat → Ras) × Nat × Src × Qoi × Pnm × Bmp × Tga × Pcx × A) Int32), k v2 v3 m0 sh rr so sc qo pn bm tg px fa = res → res ≠ fno → AW (fun _ _ => True) mX10_takeIn (rmD 8 1 6) (gT res) (6 * gT res) (P_X10_takeIn ww pl hb o n res) (fun _ _ _ => False) 0 0 17 [(0, .ref 0), (1, .ref o), (2, .int v2), (3, .int v3)] [.ref 28] (HC m0 sh rr ww so sc pl qo pn bm tg px fa hb) n
def F_X10_takeIn_50016 (o : Nat) (ww : (Nat → Row))  (v2 : Int32) (v3 : Int32) (m0 : Mnt) (sh : (Nat → Nat)) (rr : (Nat → Ras)) (so : Nat) (sc : Src) (qo : Qoi) (pn : Pnm) (bm : Bmp) (tg : Tga) (px : Pcx) (fa : A) : Out (Mnt × (Nat → Nat) × (Nat → Ras) × Nat × Src × Qoi × Pnm × Bmp × Tga × Pcx × A) Int32 := fon (F_X8_open o ww so sc) (fun z24 s24 => if isR (m0_sp m0) then (if isW s24.1 then (fon (F_X4_decode (rr (m0_sp m0)) s24.2 (y_b (ww s24.1)) px) (fun z37 s37 => if inb v3 4 then (if isR (sh (Int32.toNatClampNeg v3)) then (if isR (m0_sp m0) then (if inb v3 4 then (if inb 0 4 then (if inb 1 4 then (if inb 2 4 then (if inb 3 4 then (fok (0 : Int32) (((sh (Int32.toNatClampNeg v3)), (m0_fp m0)), (va_up sh (Int32.toNatClampNeg v3) (m0_sp m0)), (va_up rr (m0_sp m0) s37.1), s24.1, s37.2.1, qo, pn, bm, tg, s37.2.2, (upd (upd (upd (upd fa (Int32.toNatClampNeg 0) v2) (Int32.toNatClampNeg 1) (px_f1 s37.2.2)) (Int32.toNatClampNeg 2) (px_f2 s37.2.2)) (Int32.toNatClampNeg 3) (px_f3 s37.2.2)))) else fno) else fno) else fno) else fno) else fno) else fno) else fno) else fno) (fun E37 s37 => if E37 = "java/lang/IllegalStateException" then (if ¬ (sc_ft s37.2.1) = 0 then (fok ((sc_ft s37.2.1) : Int32) (m0, sh, (va_up rr (m0_sp m0) s37.1), s24.1, s37.2.1, qo, pn, bm, tg, s37.2.2, fa)) else fno) else fno)) else fno) else fno) (fun _ _ => fno)
set_option maxHeartbeats 1000000 in
set_option maxRecDepth 100000 in
theorem b_X10_takeIn_50016 (ww : Nat → Row) (pl : Pal) (hb : aH) (o : Nat) (n : Nat) (ho : isW o)  : Q_X10_takeIn_50016 ww pl hb o n (F_X10_takeIn_50016 o ww) := by
  intro v2 v3 m0 sh rr so sc qo pn bm tg px fa res hE hF
  unfold F_X10_takeIn_50016 at hE
  refine aw_astore (lv2 := [(4, _), (0, _), (1, _), (2, _), (3, _)]) dX10_takeIn_17 (by decide) rfl ?_
  refine aw_aload_n dX10_takeIn_19 rfl ?_
  refine aw_getf (v := .ref 16) dX10_takeIn_20 flX10_35_9 at_mint rfl ?_
  refine aw_aload_n dX10_takeIn_23 rfl ?_
  refine aw_callV dX10_takeIn_24 at_src cvX10_200 rfl (kF_X8_open m0 sh rr ww so sc pl qo pn bm tg px fa hb o _ ho  (fon_ne hE hF)) rfl (Nat.le_of_ble_eq_true rfl) (by decide) (by decide) (by decide) (by decide) (fun _ _ _ hf => False.elim hf) (fun r24 h24 n24 hp24 => ?_)
  obtain ⟨z24, s24, e24, rfl, rfl, rfl⟩ := hp24
  replace hE := fon_ok e24 hE
  refine aw_aload dX10_takeIn_27 rfl ?_
  refine aw_aload_n dX10_takeIn_29 rfl ?_
  refine aw_getf (v := .ref 16) dX10_takeIn_30 flX10_35_9 at_mint rfl ?_
  refine aw_aload_n dX10_takeIn_33 rfl ?_
  obtain ⟨g34, hE⟩ := fgd hE hF
  refine aw_getf (v := .ref (m0_sp m0)) dX10_takeIn_34 flX10_16_9 at_mint rfl ?_
  refine aw_eqh (h2 := HC m0 sh (va_up rr (m0_sp m0) (rr (m0_sp m0))) ww s24.1 s24.2 pl qo pn bm tg px fa hb) (by rw [vus rr (m0_sp m0)]) ?_
  obtain ⟨W37, hE⟩ := fgd hE hF
  refine aw_callU dX10_takeIn_37 at_pcx cuX10_203_3 rfl (kF_X4_decode m0 sh rr (m0_sp m0) (rr (m0_sp m0)) ww s24.1 s24.2 pl qo pn bm tg px fa hb _ g34 W37  (fon_ne hE hF)) rfl (Nat.le_of_ble_eq_true rfl) (by decide) (by decide) (by decide) (by decide) (fun E37 h37 n37 hx37 => ?_) (fun r37 h37 n37 hp37 => ?_)
  · obtain ⟨s37, e37, rfl, rfl⟩ := hx37
    replace hE := fon_ex e37 hE
    have hE2 := fgd hE hF
    clear hE
    obtain ⟨g37, hE⟩ := hE2
    subst g37
    refine aw_catch (name := "java/lang/IllegalStateException") [] ⟨27, 40, 43, 207⟩ [] rfl (fun _ h => absurd h List.not_mem_nil) (by decide) (by decide) klX10_207 ca_ISE ?_
    refine aw_astoreX (lv2 := [(5, _), (4, _), (0, _), (1, _), (2, _), (3, _)]) dX10_takeIn_43 (by decide) rfl ?_
    refine aw_aload_n dX10_takeIn_45 rfl ?_
    refine aw_getf (v := .ref 16) dX10_takeIn_46 flX10_35_9 at_mint rfl ?_
    refine aw_getf (v := .int (sc_ft s37.2.1)) dX10_takeIn_49 flX10_209_7 at_src rfl ?_
    obtain ⟨G52, hE⟩ := fgd hE hF
    exact aw_iret dX10_takeIn_52 rfl (by decide) (by decide) (by rw [← hE, gT_1 G52]; decide) (by rw [← hE, gT_1 G52]; decide) ⟨_, _, hE.symm, rfl, rfl, rfl⟩
  obtain ⟨z37, s37, e37, rfl, rfl, rfl⟩ := hp37
  replace hE := fon_ok e37 hE
  refine aw_goto (tgt := 53) dX10_takeIn_40 (by decide) ?_
  refine aw_aload_n dX10_takeIn_53 rfl ?_
  refine aw_getf (v := .ref 1) dX10_takeIn_54 flX10_11_9 at_mint rfl ?_
  refine aw_iload_n dX10_takeIn_57 rfl ?_
  obtain ⟨g58, hE⟩ := fgd hE hF
  obtain ⟨G58, hE⟩ := fgd hE hF
  refine aw_aald (y := (sh (Int32.toNatClampNeg v3))) dX10_takeIn_58 at_shelves (vp_in_iff.mpr g58) (if_pos (inbN g58)) ?_
  refine aw_astore (lv2 := [(5, _), (4, _), (0, _), (1, _), (2, _), (3, _)]) dX10_takeIn_59 (by decide) rfl ?_
  refine aw_aload_n dX10_takeIn_61 rfl ?_
  refine aw_getf (v := .ref 1) dX10_takeIn_62 flX10_11_9 at_mint rfl ?_
  refine aw_iload_n dX10_takeIn_65 rfl ?_
  refine aw_aload_n dX10_takeIn_66 rfl ?_
  obtain ⟨g67, hE⟩ := fgd hE hF
  refine aw_getf (v := .ref (m0_sp m0)) dX10_takeIn_67 flX10_16_9 at_mint rfl ?_
  obtain ⟨g70, hE⟩ := fgd hE hF
  refine aw_aast (Cv := RX7) dX10_takeIn_70 at_shelves (at_rasT g67) ⟨_, _, rfl⟩ (Or.inl rfl) (vp_in_iff.mpr g70) ?_
  refine aw_eqh (h2 := HC m0 (va_up sh (Int32.toNatClampNeg v3) (m0_sp m0)) (va_up rr (m0_sp m0) s37.1) ww s24.1 s37.2.1 pl qo pn bm tg s37.2.2 fa hb) (up_shelves (inbN g70)) ?_
  refine aw_aload_n dX10_takeIn_71 rfl ?_
  refine aw_aload dX10_takeIn_72 rfl ?_
  refine aw_putf dX10_takeIn_74 ptX10_16_9 at_mint (Nat.le_of_ble_eq_true rfl) (fun _ => ⟨rfl, rfl⟩) ?_
  refine aw_eqh (h2 := HC ((sh (Int32.toNatClampNeg v3)), (m0_fp m0)) (va_up sh (Int32.toNatClampNeg v3) (m0_sp m0)) (va_up rr (m0_sp m0) s37.1) ww s24.1 s37.2.1 pl qo pn bm tg s37.2.2 fa hb) up_mint ?_
  refine aw_aload_n dX10_takeIn_77 rfl ?_
  refine aw_getf (v := .ref 30) dX10_takeIn_78 flX10_69_9 at_mint rfl ?_
  refine aw_iconst (v := 0) dX10_takeIn_81 (by decide) ?_
  refine aw_iload_n dX10_takeIn_82 rfl ?_
  obtain ⟨g83, hE⟩ := fgd hE hF
  refine aw_iast (f := fa) dX10_takeIn_83 at_facts (vp_in_iff.mpr g83) ?_
  refine aw_eqh (h2 := HC ((sh (Int32.toNatClampNeg v3)), (m0_fp m0)) (va_up sh (Int32.toNatClampNeg v3) (m0_sp m0)) (va_up rr (m0_sp m0) s37.1) ww s24.1 s37.2.1 pl qo pn bm tg s37.2.2 (upd fa (Int32.toNatClampNeg 0) v2) hb) up_facts ?_
  refine aw_aload_n dX10_takeIn_84 rfl ?_
  refine aw_getf (v := .ref 30) dX10_takeIn_85 flX10_69_9 at_mint rfl ?_
  refine aw_iconst (v := 1) dX10_takeIn_88 (by decide) ?_
  refine aw_aload dX10_takeIn_89 rfl ?_
  refine aw_getf (v := .int (px_f1 s37.2.2)) dX10_takeIn_91 flX10_212_3 at_pcx rfl ?_
  obtain ⟨g94, hE⟩ := fgd hE hF
  refine aw_iast (f := (upd fa (Int32.toNatClampNeg 0) v2)) dX10_takeIn_94 at_facts (vp_in_iff.mpr g94) ?_
  refine aw_eqh (h2 := HC ((sh (Int32.toNatClampNeg v3)), (m0_fp m0)) (va_up sh (Int32.toNatClampNeg v3) (m0_sp m0)) (va_up rr (m0_sp m0) s37.1) ww s24.1 s37.2.1 pl qo pn bm tg s37.2.2 (upd (upd fa (Int32.toNatClampNeg 0) v2) (Int32.toNatClampNeg 1) (px_f1 s37.2.2)) hb) up_facts ?_
  refine aw_aload_n dX10_takeIn_95 rfl ?_
  refine aw_getf (v := .ref 30) dX10_takeIn_96 flX10_69_9 at_mint rfl ?_
  refine aw_iconst (v := 2) dX10_takeIn_99 (by decide) ?_
  refine aw_aload dX10_takeIn_100 rfl ?_
  refine aw_getf (v := .int (px_f2 s37.2.2)) dX10_takeIn_102 flX10_215_3 at_pcx rfl ?_
  obtain ⟨g105, hE⟩ := fgd hE hF
  refine aw_iast (f := (upd (upd fa (Int32.toNatClampNeg 0) v2) (Int32.toNatClampNeg 1) (px_f1 s37.2.2))) dX10_takeIn_105 at_facts (vp_in_iff.mpr g105) ?_
  refine aw_eqh (h2 := HC ((sh (Int32.toNatClampNeg v3)), (m0_fp m0)) (va_up sh (Int32.toNatClampNeg v3) (m0_sp m0)) (va_up rr (m0_sp m0) s37.1) ww s24.1 s37.2.1 pl qo pn bm tg s37.2.2 (upd (upd (upd fa (Int32.toNatClampNeg 0) v2) (Int32.toNatClampNeg 1) (px_f1 s37.2.2)) (Int32.toNatClampNeg 2) (px_f2 s37.2.2)) hb) up_facts ?_
  refine aw_aload_n dX10_takeIn_106 rfl ?_
  refine aw_getf (v := .ref 30) dX10_takeIn_107 flX10_69_9 at_mint rfl ?_
  refine aw_iconst (v := 3) dX10_takeIn_110 (by decide) ?_
  refine aw_aload dX10_takeIn_111 rfl ?_
  refine aw_getf (v := .int (px_f3 s37.2.2)) dX10_takeIn_113 flX10_218_3 at_pcx rfl ?_
  obtain ⟨g116, hE⟩ := fgd hE hF
  refine aw_iast (f := (upd (upd (upd fa (Int32.toNatClampNeg 0) v2) (Int32.toNatClampNeg 1) (px_f1 s37.2.2)) (Int32.toNatClampNeg 2) (px_f2 s37.2.2))) dX10_takeIn_116 at_facts (vp_in_iff.mpr g116) ?_
  refine aw_eqh (h2 := HC ((sh (Int32.toNatClampNeg v3)), (m0_fp m0)) (va_up sh (Int32.toNatClampNeg v3) (m0_sp m0)) (va_up rr (m0_sp m0) s37.1) ww s24.1 s37.2.1 pl qo pn bm tg s37.2.2 (upd (upd (upd (upd fa (Int32.toNatClampNeg 0) v2) (Int32.toNatClampNeg 1) (px_f1 s37.2.2)) (Int32.toNatClampNeg 2) (px_f2 s37.2.2)) (Int32.toNatClampNeg 3) (px_f3 s37.2.2)) hb) up_facts ?_
  refine aw_iconst (v := 0) dX10_takeIn_117 (by decide) ?_
  exact aw_iret dX10_takeIn_118 rfl (Nat.zero_le _) (Nat.zero_le _) (Nat.zero_le _) (Nat.zero_le _) ⟨_, _, hE.symm, rfl, rfl, rfl⟩
def F_X10_takeIn_40016 (o : Nat) (ww : (Nat → Row))  (v2 : Int32) (v3 : Int32) (m0 : Mnt) (sh : (Nat → Nat)) (rr : (Nat → Ras)) (so : Nat) (sc : Src) (qo : Qoi) (pn : Pnm) (bm : Bmp) (tg : Tga) (px : Pcx) (fa : A) : Out (Mnt × (Nat → Nat) × (Nat → Ras) × Nat × Src × Qoi × Pnm × Bmp × Tga × Pcx × A) Int32 := fon (F_X8_open o ww so sc) (fun z24 s24 => if isR (m0_sp m0) then (if isW s24.1 then (fon (F_X9_decode (rr (m0_sp m0)) s24.2 (y_b (ww s24.1)) tg) (fun z37 s37 => if inb v3 4 then (if isR (sh (Int32.toNatClampNeg v3)) then (if isR (m0_sp m0) then (if inb v3 4 then (if inb 0 4 then (if inb 1 4 then (if inb 2 4 then (if inb 3 4 then (fok (0 : Int32) (((sh (Int32.toNatClampNeg v3)), (m0_fp m0)), (va_up sh (Int32.toNatClampNeg v3) (m0_sp m0)), (va_up rr (m0_sp m0) s37.1), s24.1, s37.2.1, qo, pn, bm, s37.2.2, px, (upd (upd (upd (upd fa (Int32.toNatClampNeg 0) v2) (Int32.toNatClampNeg 1) (tg_f1 s37.2.2)) (Int32.toNatClampNeg 2) (tg_f2 s37.2.2)) (Int32.toNatClampNeg 3) (tg_f3 s37.2.2)))) else fno) else fno) else fno) else fno) else fno) else fno) else fno) else fno) (fun E37 s37 => if E37 = "java/lang/IllegalStateException" then (if ¬ (sc_ft s37.2.1) = 0 then (fok ((sc_ft s37.2.1) : Int32) (m0, sh, (va_up rr (m0_sp m0) s37.1), s24.1, s37.2.1, qo, pn, bm, s37.2.2, px, fa)) else fno) else fno)) else fno) else fno) (fun _ _ => fno)
set_option maxHeartbeats 1000000 in
set_option maxRecDepth 100000 in
theorem b_X10_takeIn_40016 (ww : Nat → Row) (pl : Pal) (hb : aH) (o : Nat) (n : Nat) (ho : isW o)  : Q_X10_takeIn_40016 ww pl hb o n (F_X10_takeIn_40016 o ww) := by
  intro v2 v3 m0 sh rr so sc qo pn bm tg px fa res hE hF
  unfold F_X10_takeIn_40016 at hE
  refine aw_astore (lv2 := [(4, _), (0, _), (1, _), (2, _), (3, _)]) dX10_takeIn_17 (by decide) rfl ?_
  refine aw_aload_n dX10_takeIn_19 rfl ?_
  refine aw_getf (v := .ref 16) dX10_takeIn_20 flX10_35_9 at_mint rfl ?_
  refine aw_aload_n dX10_takeIn_23 rfl ?_
  refine aw_callV dX10_takeIn_24 at_src cvX10_200 rfl (kF_X8_open m0 sh rr ww so sc pl qo pn bm tg px fa hb o _ ho  (fon_ne hE hF)) rfl (Nat.le_of_ble_eq_true rfl) (by decide) (by decide) (by decide) (by decide) (fun _ _ _ hf => False.elim hf) (fun r24 h24 n24 hp24 => ?_)
  obtain ⟨z24, s24, e24, rfl, rfl, rfl⟩ := hp24
  replace hE := fon_ok e24 hE
  refine aw_aload dX10_takeIn_27 rfl ?_
  refine aw_aload_n dX10_takeIn_29 rfl ?_
  refine aw_getf (v := .ref 16) dX10_takeIn_30 flX10_35_9 at_mint rfl ?_
  refine aw_aload_n dX10_takeIn_33 rfl ?_
  obtain ⟨g34, hE⟩ := fgd hE hF
  refine aw_getf (v := .ref (m0_sp m0)) dX10_takeIn_34 flX10_16_9 at_mint rfl ?_
  refine aw_eqh (h2 := HC m0 sh (va_up rr (m0_sp m0) (rr (m0_sp m0))) ww s24.1 s24.2 pl qo pn bm tg px fa hb) (by rw [vus rr (m0_sp m0)]) ?_
  obtain ⟨W37, hE⟩ := fgd hE hF
  refine aw_callU dX10_takeIn_37 at_tga cuX10_203_8 rfl (kF_X9_decode m0 sh rr (m0_sp m0) (rr (m0_sp m0)) ww s24.1 s24.2 pl qo pn bm tg px fa hb _ g34 W37  (fon_ne hE hF)) rfl (Nat.le_of_ble_eq_true rfl) (by decide) (by decide) (by decide) (by decide) (fun E37 h37 n37 hx37 => ?_) (fun r37 h37 n37 hp37 => ?_)
  · obtain ⟨s37, e37, rfl, rfl⟩ := hx37
    replace hE := fon_ex e37 hE
    have hE2 := fgd hE hF
    clear hE
    obtain ⟨g37, hE⟩ := hE2
    subst g37
    refine aw_catch (name := "java/lang/IllegalStateException") [] ⟨27, 40, 43, 207⟩ [] rfl (fun _ h => absurd h List.not_mem_nil) (by decide) (by decide) klX10_207 ca_ISE ?_
    refine aw_astoreX (lv2 := [(5, _), (4, _), (0, _), (1, _), (2, _), (3, _)]) dX10_takeIn_43 (by decide) rfl ?_
    refine aw_aload_n dX10_takeIn_45 rfl ?_
    refine aw_getf (v := .ref 16) dX10_takeIn_46 flX10_35_9 at_mint rfl ?_
    refine aw_getf (v := .int (sc_ft s37.2.1)) dX10_takeIn_49 flX10_209_7 at_src rfl ?_
    obtain ⟨G52, hE⟩ := fgd hE hF
    exact aw_iret dX10_takeIn_52 rfl (by decide) (by decide) (by rw [← hE, gT_1 G52]; decide) (by rw [← hE, gT_1 G52]; decide) ⟨_, _, hE.symm, rfl, rfl, rfl⟩
  obtain ⟨z37, s37, e37, rfl, rfl, rfl⟩ := hp37
  replace hE := fon_ok e37 hE
  refine aw_goto (tgt := 53) dX10_takeIn_40 (by decide) ?_
  refine aw_aload_n dX10_takeIn_53 rfl ?_
  refine aw_getf (v := .ref 1) dX10_takeIn_54 flX10_11_9 at_mint rfl ?_
  refine aw_iload_n dX10_takeIn_57 rfl ?_
  obtain ⟨g58, hE⟩ := fgd hE hF
  obtain ⟨G58, hE⟩ := fgd hE hF
  refine aw_aald (y := (sh (Int32.toNatClampNeg v3))) dX10_takeIn_58 at_shelves (vp_in_iff.mpr g58) (if_pos (inbN g58)) ?_
  refine aw_astore (lv2 := [(5, _), (4, _), (0, _), (1, _), (2, _), (3, _)]) dX10_takeIn_59 (by decide) rfl ?_
  refine aw_aload_n dX10_takeIn_61 rfl ?_
  refine aw_getf (v := .ref 1) dX10_takeIn_62 flX10_11_9 at_mint rfl ?_
  refine aw_iload_n dX10_takeIn_65 rfl ?_
  refine aw_aload_n dX10_takeIn_66 rfl ?_
  obtain ⟨g67, hE⟩ := fgd hE hF
  refine aw_getf (v := .ref (m0_sp m0)) dX10_takeIn_67 flX10_16_9 at_mint rfl ?_
  obtain ⟨g70, hE⟩ := fgd hE hF
  refine aw_aast (Cv := RX7) dX10_takeIn_70 at_shelves (at_rasT g67) ⟨_, _, rfl⟩ (Or.inl rfl) (vp_in_iff.mpr g70) ?_
  refine aw_eqh (h2 := HC m0 (va_up sh (Int32.toNatClampNeg v3) (m0_sp m0)) (va_up rr (m0_sp m0) s37.1) ww s24.1 s37.2.1 pl qo pn bm s37.2.2 px fa hb) (up_shelves (inbN g70)) ?_
  refine aw_aload_n dX10_takeIn_71 rfl ?_
  refine aw_aload dX10_takeIn_72 rfl ?_
  refine aw_putf dX10_takeIn_74 ptX10_16_9 at_mint (Nat.le_of_ble_eq_true rfl) (fun _ => ⟨rfl, rfl⟩) ?_
  refine aw_eqh (h2 := HC ((sh (Int32.toNatClampNeg v3)), (m0_fp m0)) (va_up sh (Int32.toNatClampNeg v3) (m0_sp m0)) (va_up rr (m0_sp m0) s37.1) ww s24.1 s37.2.1 pl qo pn bm s37.2.2 px fa hb) up_mint ?_
  refine aw_aload_n dX10_takeIn_77 rfl ?_
  refine aw_getf (v := .ref 30) dX10_takeIn_78 flX10_69_9 at_mint rfl ?_
  refine aw_iconst (v := 0) dX10_takeIn_81 (by decide) ?_
  refine aw_iload_n dX10_takeIn_82 rfl ?_
  obtain ⟨g83, hE⟩ := fgd hE hF
  refine aw_iast (f := fa) dX10_takeIn_83 at_facts (vp_in_iff.mpr g83) ?_
  refine aw_eqh (h2 := HC ((sh (Int32.toNatClampNeg v3)), (m0_fp m0)) (va_up sh (Int32.toNatClampNeg v3) (m0_sp m0)) (va_up rr (m0_sp m0) s37.1) ww s24.1 s37.2.1 pl qo pn bm s37.2.2 px (upd fa (Int32.toNatClampNeg 0) v2) hb) up_facts ?_
  refine aw_aload_n dX10_takeIn_84 rfl ?_
  refine aw_getf (v := .ref 30) dX10_takeIn_85 flX10_69_9 at_mint rfl ?_
  refine aw_iconst (v := 1) dX10_takeIn_88 (by decide) ?_
  refine aw_aload dX10_takeIn_89 rfl ?_
  refine aw_getf (v := .int (tg_f1 s37.2.2)) dX10_takeIn_91 flX10_212_8 at_tga rfl ?_
  obtain ⟨g94, hE⟩ := fgd hE hF
  refine aw_iast (f := (upd fa (Int32.toNatClampNeg 0) v2)) dX10_takeIn_94 at_facts (vp_in_iff.mpr g94) ?_
  refine aw_eqh (h2 := HC ((sh (Int32.toNatClampNeg v3)), (m0_fp m0)) (va_up sh (Int32.toNatClampNeg v3) (m0_sp m0)) (va_up rr (m0_sp m0) s37.1) ww s24.1 s37.2.1 pl qo pn bm s37.2.2 px (upd (upd fa (Int32.toNatClampNeg 0) v2) (Int32.toNatClampNeg 1) (tg_f1 s37.2.2)) hb) up_facts ?_
  refine aw_aload_n dX10_takeIn_95 rfl ?_
  refine aw_getf (v := .ref 30) dX10_takeIn_96 flX10_69_9 at_mint rfl ?_
  refine aw_iconst (v := 2) dX10_takeIn_99 (by decide) ?_
  refine aw_aload dX10_takeIn_100 rfl ?_
  refine aw_getf (v := .int (tg_f2 s37.2.2)) dX10_takeIn_102 flX10_215_8 at_tga rfl ?_
  obtain ⟨g105, hE⟩ := fgd hE hF
  refine aw_iast (f := (upd (upd fa (Int32.toNatClampNeg 0) v2) (Int32.toNatClampNeg 1) (tg_f1 s37.2.2))) dX10_takeIn_105 at_facts (vp_in_iff.mpr g105) ?_
  refine aw_eqh (h2 := HC ((sh (Int32.toNatClampNeg v3)), (m0_fp m0)) (va_up sh (Int32.toNatClampNeg v3) (m0_sp m0)) (va_up rr (m0_sp m0) s37.1) ww s24.1 s37.2.1 pl qo pn bm s37.2.2 px (upd (upd (upd fa (Int32.toNatClampNeg 0) v2) (Int32.toNatClampNeg 1) (tg_f1 s37.2.2)) (Int32.toNatClampNeg 2) (tg_f2 s37.2.2)) hb) up_facts ?_
  refine aw_aload_n dX10_takeIn_106 rfl ?_
  refine aw_getf (v := .ref 30) dX10_takeIn_107 flX10_69_9 at_mint rfl ?_
  refine aw_iconst (v := 3) dX10_takeIn_110 (by decide) ?_
  refine aw_aload dX10_takeIn_111 rfl ?_
  refine aw_getf (v := .int (tg_f3 s37.2.2)) dX10_takeIn_113 flX10_218_8 at_tga rfl ?_
  obtain ⟨g116, hE⟩ := fgd hE hF
  refine aw_iast (f := (upd (upd (upd fa (Int32.toNatClampNeg 0) v2) (Int32.toNatClampNeg 1) (tg_f1 s37.2.2)) (Int32.toNatClampNeg 2) (tg_f2 s37.2.2))) dX10_takeIn_116 at_facts (vp_in_iff.mpr g116) ?_
  refine aw_eqh (h2 := HC ((sh (Int32.toNatClampNeg v3)), (m0_fp m0)) (va_up sh (Int32.toNatClampNeg v3) (m0_sp m0)) (va_up rr (m0_sp m0) s37.1) ww s24.1 s37.2.1 pl qo pn bm s37.2.2 px (upd (upd (upd (upd fa (Int32.toNatClampNeg 0) v2) (Int32.toNatClampNeg 1) (tg_f1 s37.2.2)) (Int32.toNatClampNeg 2) (tg_f2 s37.2.2)) (Int32.toNatClampNeg 3) (tg_f3 s37.2.2)) hb) up_facts ?_
  refine aw_iconst (v := 0) dX10_takeIn_117 (by decide) ?_
  exact aw_iret dX10_takeIn_118 rfl (Nat.zero_le _) (Nat.zero_le _) (Nat.zero_le _) (Nat.zero_le _) ⟨_, _, hE.symm, rfl, rfl, rfl⟩
def F_X10_takeIn_30016 (o : Nat) (ww : (Nat → Row))  (v2 : Int32) (v3 : Int32) (m0 : Mnt) (sh : (Nat → Nat)) (rr : (Nat → Ras)) (so : Nat) (sc : Src) (qo : Qoi) (pn : Pnm) (bm : Bmp) (tg : Tga) (px : Pcx) (fa : A) : Out (Mnt × (Nat → Nat) × (Nat → Ras) × Nat × Src × Qoi × Pnm × Bmp × Tga × Pcx × A) Int32 := fon (F_X8_open o ww so sc) (fun z24 s24 => if isR (m0_sp m0) then (if isW s24.1 then (fon (F_X0_decode (rr (m0_sp m0)) s24.2 (y_b (ww s24.1)) bm) (fun z37 s37 => if inb v3 4 then (if isR (sh (Int32.toNatClampNeg v3)) then (if isR (m0_sp m0) then (if inb v3 4 then (if inb 0 4 then (if inb 1 4 then (if inb 2 4 then (if inb 3 4 then (fok (0 : Int32) (((sh (Int32.toNatClampNeg v3)), (m0_fp m0)), (va_up sh (Int32.toNatClampNeg v3) (m0_sp m0)), (va_up rr (m0_sp m0) s37.1), s24.1, s37.2.1, qo, pn, s37.2.2, tg, px, (upd (upd (upd (upd fa (Int32.toNatClampNeg 0) v2) (Int32.toNatClampNeg 1) (bm_f1 s37.2.2)) (Int32.toNatClampNeg 2) (bm_f2 s37.2.2)) (Int32.toNatClampNeg 3) (bm_f3 s37.2.2)))) else fno) else fno) else fno) else fno) else fno) else fno) else fno) else fno) (fun E37 s37 => if E37 = "java/lang/IllegalStateException" then (if ¬ (sc_ft s37.2.1) = 0 then (fok ((sc_ft s37.2.1) : Int32) (m0, sh, (va_up rr (m0_sp m0) s37.1), s24.1, s37.2.1, qo, pn, s37.2.2, tg, px, fa)) else fno) else fno)) else fno) else fno) (fun _ _ => fno)
set_option maxHeartbeats 1000000 in
set_option maxRecDepth 100000 in
theorem b_X10_takeIn_30016 (ww : Nat → Row) (pl : Pal) (hb : aH) (o : Nat) (n : Nat) (ho : isW o)  : Q_X10_takeIn_30016 ww pl hb o n (F_X10_takeIn_30016 o ww) := by
  intro v2 v3 m0 sh rr so sc qo pn bm tg px fa res hE hF
  unfold F_X10_takeIn_30016 at hE
  refine aw_astore (lv2 := [(4, _), (0, _), (1, _), (2, _), (3, _)]) dX10_takeIn_17 (by decide) rfl ?_
  refine aw_aload_n dX10_takeIn_19 rfl ?_
  refine aw_getf (v := .ref 16) dX10_takeIn_20 flX10_35_9 at_mint rfl ?_
  refine aw_aload_n dX10_takeIn_23 rfl ?_
  refine aw_callV dX10_takeIn_24 at_src cvX10_200 rfl (kF_X8_open m0 sh rr ww so sc pl qo pn bm tg px fa hb o _ ho  (fon_ne hE hF)) rfl (Nat.le_of_ble_eq_true rfl) (by decide) (by decide) (by decide) (by decide) (fun _ _ _ hf => False.elim hf) (fun r24 h24 n24 hp24 => ?_)
  obtain ⟨z24, s24, e24, rfl, rfl, rfl⟩ := hp24
  replace hE := fon_ok e24 hE
  refine aw_aload dX10_takeIn_27 rfl ?_
  refine aw_aload_n dX10_takeIn_29 rfl ?_
  refine aw_getf (v := .ref 16) dX10_takeIn_30 flX10_35_9 at_mint rfl ?_
  refine aw_aload_n dX10_takeIn_33 rfl ?_
  obtain ⟨g34, hE⟩ := fgd hE hF
  refine aw_getf (v := .ref (m0_sp m0)) dX10_takeIn_34 flX10_16_9 at_mint rfl ?_
  refine aw_eqh (h2 := HC m0 sh (va_up rr (m0_sp m0) (rr (m0_sp m0))) ww s24.1 s24.2 pl qo pn bm tg px fa hb) (by rw [vus rr (m0_sp m0)]) ?_
  obtain ⟨W37, hE⟩ := fgd hE hF
  refine aw_callU dX10_takeIn_37 at_bmp cuX10_203_0 rfl (kF_X0_decode m0 sh rr (m0_sp m0) (rr (m0_sp m0)) ww s24.1 s24.2 pl qo pn bm tg px fa hb _ g34 W37  (fon_ne hE hF)) rfl (Nat.le_of_ble_eq_true rfl) (by decide) (by decide) (by decide) (by decide) (fun E37 h37 n37 hx37 => ?_) (fun r37 h37 n37 hp37 => ?_)
  · obtain ⟨s37, e37, rfl, rfl⟩ := hx37
    replace hE := fon_ex e37 hE
    have hE2 := fgd hE hF
    clear hE
    obtain ⟨g37, hE⟩ := hE2
    subst g37
    refine aw_catch (name := "java/lang/IllegalStateException") [] ⟨27, 40, 43, 207⟩ [] rfl (fun _ h => absurd h List.not_mem_nil) (by decide) (by decide) klX10_207 ca_ISE ?_
    refine aw_astoreX (lv2 := [(5, _), (4, _), (0, _), (1, _), (2, _), (3, _)]) dX10_takeIn_43 (by decide) rfl ?_
    refine aw_aload_n dX10_takeIn_45 rfl ?_
    refine aw_getf (v := .ref 16) dX10_takeIn_46 flX10_35_9 at_mint rfl ?_
    refine aw_getf (v := .int (sc_ft s37.2.1)) dX10_takeIn_49 flX10_209_7 at_src rfl ?_
    obtain ⟨G52, hE⟩ := fgd hE hF
    exact aw_iret dX10_takeIn_52 rfl (by decide) (by decide) (by rw [← hE, gT_1 G52]; decide) (by rw [← hE, gT_1 G52]; decide) ⟨_, _, hE.symm, rfl, rfl, rfl⟩
  obtain ⟨z37, s37, e37, rfl, rfl, rfl⟩ := hp37
  replace hE := fon_ok e37 hE
  refine aw_goto (tgt := 53) dX10_takeIn_40 (by decide) ?_
  refine aw_aload_n dX10_takeIn_53 rfl ?_
  refine aw_getf (v := .ref 1) dX10_takeIn_54 flX10_11_9 at_mint rfl ?_
  refine aw_iload_n dX10_takeIn_57 rfl ?_
  obtain ⟨g58, hE⟩ := fgd hE hF
  obtain ⟨G58, hE⟩ := fgd hE hF
  refine aw_aald (y := (sh (Int32.toNatClampNeg v3))) dX10_takeIn_58 at_shelves (vp_in_iff.mpr g58) (if_pos (inbN g58)) ?_
  refine aw_astore (lv2 := [(5, _), (4, _), (0, _), (1, _), (2, _), (3, _)]) dX10_takeIn_59 (by decide) rfl ?_
  refine aw_aload_n dX10_takeIn_61 rfl ?_
  refine aw_getf (v := .ref 1) dX10_takeIn_62 flX10_11_9 at_mint rfl ?_
  refine aw_iload_n dX10_takeIn_65 rfl ?_
  refine aw_aload_n dX10_takeIn_66 rfl ?_
  obtain ⟨g67, hE⟩ := fgd hE hF
  refine aw_getf (v := .ref (m0_sp m0)) dX10_takeIn_67 flX10_16_9 at_mint rfl ?_
  obtain ⟨g70, hE⟩ := fgd hE hF
  refine aw_aast (Cv := RX7) dX10_takeIn_70 at_shelves (at_rasT g67) ⟨_, _, rfl⟩ (Or.inl rfl) (vp_in_iff.mpr g70) ?_
  refine aw_eqh (h2 := HC m0 (va_up sh (Int32.toNatClampNeg v3) (m0_sp m0)) (va_up rr (m0_sp m0) s37.1) ww s24.1 s37.2.1 pl qo pn s37.2.2 tg px fa hb) (up_shelves (inbN g70)) ?_
  refine aw_aload_n dX10_takeIn_71 rfl ?_
  refine aw_aload dX10_takeIn_72 rfl ?_
  refine aw_putf dX10_takeIn_74 ptX10_16_9 at_mint (Nat.le_of_ble_eq_true rfl) (fun _ => ⟨rfl, rfl⟩) ?_
  refine aw_eqh (h2 := HC ((sh (Int32.toNatClampNeg v3)), (m0_fp m0)) (va_up sh (Int32.toNatClampNeg v3) (m0_sp m0)) (va_up rr (m0_sp m0) s37.1) ww s24.1 s37.2.1 pl qo pn s37.2.2 tg px fa hb) up_mint ?_
  refine aw_aload_n dX10_takeIn_77 rfl ?_
  refine aw_getf (v := .ref 30) dX10_takeIn_78 flX10_69_9 at_mint rfl ?_
  refine aw_iconst (v := 0) dX10_takeIn_81 (by decide) ?_
  refine aw_iload_n dX10_takeIn_82 rfl ?_
  obtain ⟨g83, hE⟩ := fgd hE hF
  refine aw_iast (f := fa) dX10_takeIn_83 at_facts (vp_in_iff.mpr g83) ?_
  refine aw_eqh (h2 := HC ((sh (Int32.toNatClampNeg v3)), (m0_fp m0)) (va_up sh (Int32.toNatClampNeg v3) (m0_sp m0)) (va_up rr (m0_sp m0) s37.1) ww s24.1 s37.2.1 pl qo pn s37.2.2 tg px (upd fa (Int32.toNatClampNeg 0) v2) hb) up_facts ?_
  refine aw_aload_n dX10_takeIn_84 rfl ?_
  refine aw_getf (v := .ref 30) dX10_takeIn_85 flX10_69_9 at_mint rfl ?_
  refine aw_iconst (v := 1) dX10_takeIn_88 (by decide) ?_
  refine aw_aload dX10_takeIn_89 rfl ?_
  refine aw_getf (v := .int (bm_f1 s37.2.2)) dX10_takeIn_91 flX10_212_0 at_bmp rfl ?_
  obtain ⟨g94, hE⟩ := fgd hE hF
  refine aw_iast (f := (upd fa (Int32.toNatClampNeg 0) v2)) dX10_takeIn_94 at_facts (vp_in_iff.mpr g94) ?_
  refine aw_eqh (h2 := HC ((sh (Int32.toNatClampNeg v3)), (m0_fp m0)) (va_up sh (Int32.toNatClampNeg v3) (m0_sp m0)) (va_up rr (m0_sp m0) s37.1) ww s24.1 s37.2.1 pl qo pn s37.2.2 tg px (upd (upd fa (Int32.toNatClampNeg 0) v2) (Int32.toNatClampNeg 1) (bm_f1 s37.2.2)) hb) up_facts ?_
  refine aw_aload_n dX10_takeIn_95 rfl ?_
  refine aw_getf (v := .ref 30) dX10_takeIn_96 flX10_69_9 at_mint rfl ?_
  refine aw_iconst (v := 2) dX10_takeIn_99 (by decide) ?_
  refine aw_aload dX10_takeIn_100 rfl ?_
  refine aw_getf (v := .int (bm_f2 s37.2.2)) dX10_takeIn_102 flX10_215_0 at_bmp rfl ?_
  obtain ⟨g105, hE⟩ := fgd hE hF
  refine aw_iast (f := (upd (upd fa (Int32.toNatClampNeg 0) v2) (Int32.toNatClampNeg 1) (bm_f1 s37.2.2))) dX10_takeIn_105 at_facts (vp_in_iff.mpr g105) ?_
  refine aw_eqh (h2 := HC ((sh (Int32.toNatClampNeg v3)), (m0_fp m0)) (va_up sh (Int32.toNatClampNeg v3) (m0_sp m0)) (va_up rr (m0_sp m0) s37.1) ww s24.1 s37.2.1 pl qo pn s37.2.2 tg px (upd (upd (upd fa (Int32.toNatClampNeg 0) v2) (Int32.toNatClampNeg 1) (bm_f1 s37.2.2)) (Int32.toNatClampNeg 2) (bm_f2 s37.2.2)) hb) up_facts ?_
  refine aw_aload_n dX10_takeIn_106 rfl ?_
  refine aw_getf (v := .ref 30) dX10_takeIn_107 flX10_69_9 at_mint rfl ?_
  refine aw_iconst (v := 3) dX10_takeIn_110 (by decide) ?_
  refine aw_aload dX10_takeIn_111 rfl ?_
  refine aw_getf (v := .int (bm_f3 s37.2.2)) dX10_takeIn_113 flX10_218_0 at_bmp rfl ?_
  obtain ⟨g116, hE⟩ := fgd hE hF
  refine aw_iast (f := (upd (upd (upd fa (Int32.toNatClampNeg 0) v2) (Int32.toNatClampNeg 1) (bm_f1 s37.2.2)) (Int32.toNatClampNeg 2) (bm_f2 s37.2.2))) dX10_takeIn_116 at_facts (vp_in_iff.mpr g116) ?_
  refine aw_eqh (h2 := HC ((sh (Int32.toNatClampNeg v3)), (m0_fp m0)) (va_up sh (Int32.toNatClampNeg v3) (m0_sp m0)) (va_up rr (m0_sp m0) s37.1) ww s24.1 s37.2.1 pl qo pn s37.2.2 tg px (upd (upd (upd (upd fa (Int32.toNatClampNeg 0) v2) (Int32.toNatClampNeg 1) (bm_f1 s37.2.2)) (Int32.toNatClampNeg 2) (bm_f2 s37.2.2)) (Int32.toNatClampNeg 3) (bm_f3 s37.2.2)) hb) up_facts ?_
  refine aw_iconst (v := 0) dX10_takeIn_117 (by decide) ?_
  exact aw_iret dX10_takeIn_118 rfl (Nat.zero_le _) (Nat.zero_le _) (Nat.zero_le _) (Nat.zero_le _) ⟨_, _, hE.symm, rfl, rfl, rfl⟩
def F_X10_takeIn_20016 (o : Nat) (ww : (Nat → Row))  (v2 : Int32) (v3 : Int32) (m0 : Mnt) (sh : (Nat → Nat)) (rr : (Nat → Ras)) (so : Nat) (sc : Src) (qo : Qoi) (pn : Pnm) (bm : Bmp) (tg : Tga) (px : Pcx) (fa : A) : Out (Mnt × (Nat → Nat) × (Nat → Ras) × Nat × Src × Qoi × Pnm × Bmp × Tga × Pcx × A) Int32 := fon (F_X8_open o ww so sc) (fun z24 s24 => if isR (m0_sp m0) then (if isW s24.1 then (fon (F_X5_decode (rr (m0_sp m0)) s24.2 (y_b (ww s24.1)) pn) (fun z37 s37 => if inb v3 4 then (if isR (sh (Int32.toNatClampNeg v3)) then (if isR (m0_sp m0) then (if inb v3 4 then (if inb 0 4 then (if inb 1 4 then (if inb 2 4 then (if inb 3 4 then (fok (0 : Int32) (((sh (Int32.toNatClampNeg v3)), (m0_fp m0)), (va_up sh (Int32.toNatClampNeg v3) (m0_sp m0)), (va_up rr (m0_sp m0) s37.1), s24.1, s37.2.1, qo, s37.2.2, bm, tg, px, (upd (upd (upd (upd fa (Int32.toNatClampNeg 0) v2) (Int32.toNatClampNeg 1) (pn_f1 s37.2.2)) (Int32.toNatClampNeg 2) (pn_f2 s37.2.2)) (Int32.toNatClampNeg 3) (pn_f3 s37.2.2)))) else fno) else fno) else fno) else fno) else fno) else fno) else fno) else fno) (fun E37 s37 => if E37 = "java/lang/IllegalStateException" then (if ¬ (sc_ft s37.2.1) = 0 then (fok ((sc_ft s37.2.1) : Int32) (m0, sh, (va_up rr (m0_sp m0) s37.1), s24.1, s37.2.1, qo, s37.2.2, bm, tg, px, fa)) else fno) else fno)) else fno) else fno) (fun _ _ => fno)
set_option maxHeartbeats 1000000 in
set_option maxRecDepth 100000 in
theorem b_X10_takeIn_20016 (ww : Nat → Row) (pl : Pal) (hb : aH) (o : Nat) (n : Nat) (ho : isW o)  : Q_X10_takeIn_20016 ww pl hb o n (F_X10_takeIn_20016 o ww) := by
  intro v2 v3 m0 sh rr so sc qo pn bm tg px fa res hE hF
  unfold F_X10_takeIn_20016 at hE
  refine aw_astore (lv2 := [(4, _), (0, _), (1, _), (2, _), (3, _)]) dX10_takeIn_17 (by decide) rfl ?_
  refine aw_aload_n dX10_takeIn_19 rfl ?_
  refine aw_getf (v := .ref 16) dX10_takeIn_20 flX10_35_9 at_mint rfl ?_
  refine aw_aload_n dX10_takeIn_23 rfl ?_
  refine aw_callV dX10_takeIn_24 at_src cvX10_200 rfl (kF_X8_open m0 sh rr ww so sc pl qo pn bm tg px fa hb o _ ho  (fon_ne hE hF)) rfl (Nat.le_of_ble_eq_true rfl) (by decide) (by decide) (by decide) (by decide) (fun _ _ _ hf => False.elim hf) (fun r24 h24 n24 hp24 => ?_)
  obtain ⟨z24, s24, e24, rfl, rfl, rfl⟩ := hp24
  replace hE := fon_ok e24 hE
  refine aw_aload dX10_takeIn_27 rfl ?_
  refine aw_aload_n dX10_takeIn_29 rfl ?_
  refine aw_getf (v := .ref 16) dX10_takeIn_30 flX10_35_9 at_mint rfl ?_
  refine aw_aload_n dX10_takeIn_33 rfl ?_
  obtain ⟨g34, hE⟩ := fgd hE hF
  refine aw_getf (v := .ref (m0_sp m0)) dX10_takeIn_34 flX10_16_9 at_mint rfl ?_
  refine aw_eqh (h2 := HC m0 sh (va_up rr (m0_sp m0) (rr (m0_sp m0))) ww s24.1 s24.2 pl qo pn bm tg px fa hb) (by rw [vus rr (m0_sp m0)]) ?_
  obtain ⟨W37, hE⟩ := fgd hE hF
  refine aw_callU dX10_takeIn_37 at_pnm cuX10_203_4 rfl (kF_X5_decode m0 sh rr (m0_sp m0) (rr (m0_sp m0)) ww s24.1 s24.2 pl qo pn bm tg px fa hb _ g34 W37  (fon_ne hE hF)) rfl (Nat.le_of_ble_eq_true rfl) (by decide) (by decide) (by decide) (by decide) (fun E37 h37 n37 hx37 => ?_) (fun r37 h37 n37 hp37 => ?_)
  · obtain ⟨s37, e37, rfl, rfl⟩ := hx37
    replace hE := fon_ex e37 hE
    have hE2 := fgd hE hF
    clear hE
    obtain ⟨g37, hE⟩ := hE2
    subst g37
    refine aw_catch (name := "java/lang/IllegalStateException") [] ⟨27, 40, 43, 207⟩ [] rfl (fun _ h => absurd h List.not_mem_nil) (by decide) (by decide) klX10_207 ca_ISE ?_
    refine aw_astoreX (lv2 := [(5, _), (4, _), (0, _), (1, _), (2, _), (3, _)]) dX10_takeIn_43 (by decide) rfl ?_
    refine aw_aload_n dX10_takeIn_45 rfl ?_
    refine aw_getf (v := .ref 16) dX10_takeIn_46 flX10_35_9 at_mint rfl ?_
    refine aw_getf (v := .int (sc_ft s37.2.1)) dX10_takeIn_49 flX10_209_7 at_src rfl ?_
    obtain ⟨G52, hE⟩ := fgd hE hF
    exact aw_iret dX10_takeIn_52 rfl (by decide) (by decide) (by rw [← hE, gT_1 G52]; decide) (by rw [← hE, gT_1 G52]; decide) ⟨_, _, hE.symm, rfl, rfl, rfl⟩
  obtain ⟨z37, s37, e37, rfl, rfl, rfl⟩ := hp37
  replace hE := fon_ok e37 hE
  refine aw_goto (tgt := 53) dX10_takeIn_40 (by decide) ?_
  refine aw_aload_n dX10_takeIn_53 rfl ?_
  refine aw_getf (v := .ref 1) dX10_takeIn_54 flX10_11_9 at_mint rfl ?_
  refine aw_iload_n dX10_takeIn_57 rfl ?_
  obtain ⟨g58, hE⟩ := fgd hE hF
  obtain ⟨G58, hE⟩ := fgd hE hF
  refine aw_aald (y := (sh (Int32.toNatClampNeg v3))) dX10_takeIn_58 at_shelves (vp_in_iff.mpr g58) (if_pos (inbN g58)) ?_
  refine aw_astore (lv2 := [(5, _), (4, _), (0, _), (1, _), (2, _), (3, _)]) dX10_takeIn_59 (by decide) rfl ?_
  refine aw_aload_n dX10_takeIn_61 rfl ?_
  refine aw_getf (v := .ref 1) dX10_takeIn_62 flX10_11_9 at_mint rfl ?_
  refine aw_iload_n dX10_takeIn_65 rfl ?_
  refine aw_aload_n dX10_takeIn_66 rfl ?_
  obtain ⟨g67, hE⟩ := fgd hE hF
  refine aw_getf (v := .ref (m0_sp m0)) dX10_takeIn_67 flX10_16_9 at_mint rfl ?_
  obtain ⟨g70, hE⟩ := fgd hE hF
  refine aw_aast (Cv := RX7) dX10_takeIn_70 at_shelves (at_rasT g67) ⟨_, _, rfl⟩ (Or.inl rfl) (vp_in_iff.mpr g70) ?_
  refine aw_eqh (h2 := HC m0 (va_up sh (Int32.toNatClampNeg v3) (m0_sp m0)) (va_up rr (m0_sp m0) s37.1) ww s24.1 s37.2.1 pl qo s37.2.2 bm tg px fa hb) (up_shelves (inbN g70)) ?_
  refine aw_aload_n dX10_takeIn_71 rfl ?_
  refine aw_aload dX10_takeIn_72 rfl ?_
  refine aw_putf dX10_takeIn_74 ptX10_16_9 at_mint (Nat.le_of_ble_eq_true rfl) (fun _ => ⟨rfl, rfl⟩) ?_
  refine aw_eqh (h2 := HC ((sh (Int32.toNatClampNeg v3)), (m0_fp m0)) (va_up sh (Int32.toNatClampNeg v3) (m0_sp m0)) (va_up rr (m0_sp m0) s37.1) ww s24.1 s37.2.1 pl qo s37.2.2 bm tg px fa hb) up_mint ?_
  refine aw_aload_n dX10_takeIn_77 rfl ?_
  refine aw_getf (v := .ref 30) dX10_takeIn_78 flX10_69_9 at_mint rfl ?_
  refine aw_iconst (v := 0) dX10_takeIn_81 (by decide) ?_
  refine aw_iload_n dX10_takeIn_82 rfl ?_
  obtain ⟨g83, hE⟩ := fgd hE hF
  refine aw_iast (f := fa) dX10_takeIn_83 at_facts (vp_in_iff.mpr g83) ?_
  refine aw_eqh (h2 := HC ((sh (Int32.toNatClampNeg v3)), (m0_fp m0)) (va_up sh (Int32.toNatClampNeg v3) (m0_sp m0)) (va_up rr (m0_sp m0) s37.1) ww s24.1 s37.2.1 pl qo s37.2.2 bm tg px (upd fa (Int32.toNatClampNeg 0) v2) hb) up_facts ?_
  refine aw_aload_n dX10_takeIn_84 rfl ?_
  refine aw_getf (v := .ref 30) dX10_takeIn_85 flX10_69_9 at_mint rfl ?_
  refine aw_iconst (v := 1) dX10_takeIn_88 (by decide) ?_
  refine aw_aload dX10_takeIn_89 rfl ?_
  refine aw_getf (v := .int (pn_f1 s37.2.2)) dX10_takeIn_91 flX10_212_4 at_pnm rfl ?_
  obtain ⟨g94, hE⟩ := fgd hE hF
  refine aw_iast (f := (upd fa (Int32.toNatClampNeg 0) v2)) dX10_takeIn_94 at_facts (vp_in_iff.mpr g94) ?_
  refine aw_eqh (h2 := HC ((sh (Int32.toNatClampNeg v3)), (m0_fp m0)) (va_up sh (Int32.toNatClampNeg v3) (m0_sp m0)) (va_up rr (m0_sp m0) s37.1) ww s24.1 s37.2.1 pl qo s37.2.2 bm tg px (upd (upd fa (Int32.toNatClampNeg 0) v2) (Int32.toNatClampNeg 1) (pn_f1 s37.2.2)) hb) up_facts ?_
  refine aw_aload_n dX10_takeIn_95 rfl ?_
  refine aw_getf (v := .ref 30) dX10_takeIn_96 flX10_69_9 at_mint rfl ?_
  refine aw_iconst (v := 2) dX10_takeIn_99 (by decide) ?_
  refine aw_aload dX10_takeIn_100 rfl ?_
  refine aw_getf (v := .int (pn_f2 s37.2.2)) dX10_takeIn_102 flX10_215_4 at_pnm rfl ?_
  obtain ⟨g105, hE⟩ := fgd hE hF
  refine aw_iast (f := (upd (upd fa (Int32.toNatClampNeg 0) v2) (Int32.toNatClampNeg 1) (pn_f1 s37.2.2))) dX10_takeIn_105 at_facts (vp_in_iff.mpr g105) ?_
  refine aw_eqh (h2 := HC ((sh (Int32.toNatClampNeg v3)), (m0_fp m0)) (va_up sh (Int32.toNatClampNeg v3) (m0_sp m0)) (va_up rr (m0_sp m0) s37.1) ww s24.1 s37.2.1 pl qo s37.2.2 bm tg px (upd (upd (upd fa (Int32.toNatClampNeg 0) v2) (Int32.toNatClampNeg 1) (pn_f1 s37.2.2)) (Int32.toNatClampNeg 2) (pn_f2 s37.2.2)) hb) up_facts ?_
  refine aw_aload_n dX10_takeIn_106 rfl ?_
  refine aw_getf (v := .ref 30) dX10_takeIn_107 flX10_69_9 at_mint rfl ?_
  refine aw_iconst (v := 3) dX10_takeIn_110 (by decide) ?_
  refine aw_aload dX10_takeIn_111 rfl ?_
  refine aw_getf (v := .int (pn_f3 s37.2.2)) dX10_takeIn_113 flX10_218_4 at_pnm rfl ?_
  obtain ⟨g116, hE⟩ := fgd hE hF
  refine aw_iast (f := (upd (upd (upd fa (Int32.toNatClampNeg 0) v2) (Int32.toNatClampNeg 1) (pn_f1 s37.2.2)) (Int32.toNatClampNeg 2) (pn_f2 s37.2.2))) dX10_takeIn_116 at_facts (vp_in_iff.mpr g116) ?_
  refine aw_eqh (h2 := HC ((sh (Int32.toNatClampNeg v3)), (m0_fp m0)) (va_up sh (Int32.toNatClampNeg v3) (m0_sp m0)) (va_up rr (m0_sp m0) s37.1) ww s24.1 s37.2.1 pl qo s37.2.2 bm tg px (upd (upd (upd (upd fa (Int32.toNatClampNeg 0) v2) (Int32.toNatClampNeg 1) (pn_f1 s37.2.2)) (Int32.toNatClampNeg 2) (pn_f2 s37.2.2)) (Int32.toNatClampNeg 3) (pn_f3 s37.2.2)) hb) up_facts ?_
  refine aw_iconst (v := 0) dX10_takeIn_117 (by decide) ?_
  exact aw_iret dX10_takeIn_118 rfl (Nat.zero_le _) (Nat.zero_le _) (Nat.zero_le _) (Nat.zero_le _) ⟨_, _, hE.symm, rfl, rfl, rfl⟩
def F_X10_takeIn_10016 (o : Nat) (ww : (Nat → Row))  (v2 : Int32) (v3 : Int32) (m0 : Mnt) (sh : (Nat → Nat)) (rr : (Nat → Ras)) (so : Nat) (sc : Src) (qo : Qoi) (pn : Pnm) (bm : Bmp) (tg : Tga) (px : Pcx) (fa : A) : Out (Mnt × (Nat → Nat) × (Nat → Ras) × Nat × Src × Qoi × Pnm × Bmp × Tga × Pcx × A) Int32 := fon (F_X8_open o ww so sc) (fun z24 s24 => if isR (m0_sp m0) then (if isW s24.1 then (fon (F_X6_decode (rr (m0_sp m0)) s24.2 (y_b (ww s24.1)) qo) (fun z37 s37 => if inb v3 4 then (if isR (sh (Int32.toNatClampNeg v3)) then (if isR (m0_sp m0) then (if inb v3 4 then (if inb 0 4 then (if inb 1 4 then (if inb 2 4 then (if inb 3 4 then (fok (0 : Int32) (((sh (Int32.toNatClampNeg v3)), (m0_fp m0)), (va_up sh (Int32.toNatClampNeg v3) (m0_sp m0)), (va_up rr (m0_sp m0) s37.1), s24.1, s37.2.1, s37.2.2, pn, bm, tg, px, (upd (upd (upd (upd fa (Int32.toNatClampNeg 0) v2) (Int32.toNatClampNeg 1) (qo_f1 s37.2.2)) (Int32.toNatClampNeg 2) (qo_f2 s37.2.2)) (Int32.toNatClampNeg 3) (qo_f3 s37.2.2)))) else fno) else fno) else fno) else fno) else fno) else fno) else fno) else fno) (fun E37 s37 => if E37 = "java/lang/IllegalStateException" then (if ¬ (sc_ft s37.2.1) = 0 then (fok ((sc_ft s37.2.1) : Int32) (m0, sh, (va_up rr (m0_sp m0) s37.1), s24.1, s37.2.1, s37.2.2, pn, bm, tg, px, fa)) else fno) else fno)) else fno) else fno) (fun _ _ => fno)
set_option maxHeartbeats 1000000 in
set_option maxRecDepth 100000 in
theorem b_X10_takeIn_10016 (ww : Nat → Row) (pl : Pal) (hb : aH) (o : Nat) (n : Nat) (ho : isW o)  : Q_X10_takeIn_10016 ww pl hb o n (F_X10_takeIn_10016 o ww) := by
  intro v2 v3 m0 sh rr so sc qo pn bm tg px fa res hE hF
  unfold F_X10_takeIn_10016 at hE
  refine aw_astore (lv2 := [(4, _), (0, _), (1, _), (2, _), (3, _)]) dX10_takeIn_17 (by decide) rfl ?_
  refine aw_aload_n dX10_takeIn_19 rfl ?_
  refine aw_getf (v := .ref 16) dX10_takeIn_20 flX10_35_9 at_mint rfl ?_
  refine aw_aload_n dX10_takeIn_23 rfl ?_
  refine aw_callV dX10_takeIn_24 at_src cvX10_200 rfl (kF_X8_open m0 sh rr ww so sc pl qo pn bm tg px fa hb o _ ho  (fon_ne hE hF)) rfl (Nat.le_of_ble_eq_true rfl) (by decide) (by decide) (by decide) (by decide) (fun _ _ _ hf => False.elim hf) (fun r24 h24 n24 hp24 => ?_)
  obtain ⟨z24, s24, e24, rfl, rfl, rfl⟩ := hp24
  replace hE := fon_ok e24 hE
  refine aw_aload dX10_takeIn_27 rfl ?_
  refine aw_aload_n dX10_takeIn_29 rfl ?_
  refine aw_getf (v := .ref 16) dX10_takeIn_30 flX10_35_9 at_mint rfl ?_
  refine aw_aload_n dX10_takeIn_33 rfl ?_
  obtain ⟨g34, hE⟩ := fgd hE hF
  refine aw_getf (v := .ref (m0_sp m0)) dX10_takeIn_34 flX10_16_9 at_mint rfl ?_
  refine aw_eqh (h2 := HC m0 sh (va_up rr (m0_sp m0) (rr (m0_sp m0))) ww s24.1 s24.2 pl qo pn bm tg px fa hb) (by rw [vus rr (m0_sp m0)]) ?_
  obtain ⟨W37, hE⟩ := fgd hE hF
  refine aw_callU dX10_takeIn_37 at_qoi cuX10_203_5 rfl (kF_X6_decode m0 sh rr (m0_sp m0) (rr (m0_sp m0)) ww s24.1 s24.2 pl qo pn bm tg px fa hb _ g34 W37  (fon_ne hE hF)) rfl (Nat.le_of_ble_eq_true rfl) (by decide) (by decide) (by decide) (by decide) (fun E37 h37 n37 hx37 => ?_) (fun r37 h37 n37 hp37 => ?_)
  · obtain ⟨s37, e37, rfl, rfl⟩ := hx37
    replace hE := fon_ex e37 hE
    have hE2 := fgd hE hF
    clear hE
    obtain ⟨g37, hE⟩ := hE2
    subst g37
    refine aw_catch (name := "java/lang/IllegalStateException") [] ⟨27, 40, 43, 207⟩ [] rfl (fun _ h => absurd h List.not_mem_nil) (by decide) (by decide) klX10_207 ca_ISE ?_
    refine aw_astoreX (lv2 := [(5, _), (4, _), (0, _), (1, _), (2, _), (3, _)]) dX10_takeIn_43 (by decide) rfl ?_
    refine aw_aload_n dX10_takeIn_45 rfl ?_
    refine aw_getf (v := .ref 16) dX10_takeIn_46 flX10_35_9 at_mint rfl ?_
    refine aw_getf (v := .int (sc_ft s37.2.1)) dX10_takeIn_49 flX10_209_7 at_src rfl ?_
    obtain ⟨G52, hE⟩ := fgd hE hF
    exact aw_iret dX10_takeIn_52 rfl (by decide) (by decide) (by rw [← hE, gT_1 G52]; decide) (by rw [← hE, gT_1 G52]; decide) ⟨_, _, hE.symm, rfl, rfl, rfl⟩
  obtain ⟨z37, s37, e37, rfl, rfl, rfl⟩ := hp37
  replace hE := fon_ok e37 hE
  refine aw_goto (tgt := 53) dX10_takeIn_40 (by decide) ?_
  refine aw_aload_n dX10_takeIn_53 rfl ?_
  refine aw_getf (v := .ref 1) dX10_takeIn_54 flX10_11_9 at_mint rfl ?_
  refine aw_iload_n dX10_takeIn_57 rfl ?_
  obtain ⟨g58, hE⟩ := fgd hE hF
  obtain ⟨G58, hE⟩ := fgd hE hF
  refine aw_aald (y := (sh (Int32.toNatClampNeg v3))) dX10_takeIn_58 at_shelves (vp_in_iff.mpr g58) (if_pos (inbN g58)) ?_
  refine aw_astore (lv2 := [(5, _), (4, _), (0, _), (1, _), (2, _), (3, _)]) dX10_takeIn_59 (by decide) rfl ?_
  refine aw_aload_n dX10_takeIn_61 rfl ?_
  refine aw_getf (v := .ref 1) dX10_takeIn_62 flX10_11_9 at_mint rfl ?_
  refine aw_iload_n dX10_takeIn_65 rfl ?_
  refine aw_aload_n dX10_takeIn_66 rfl ?_
  obtain ⟨g67, hE⟩ := fgd hE hF
  refine aw_getf (v := .ref (m0_sp m0)) dX10_takeIn_67 flX10_16_9 at_mint rfl ?_
  obtain ⟨g70, hE⟩ := fgd hE hF
  refine aw_aast (Cv := RX7) dX10_takeIn_70 at_shelves (at_rasT g67) ⟨_, _, rfl⟩ (Or.inl rfl) (vp_in_iff.mpr g70) ?_
  refine aw_eqh (h2 := HC m0 (va_up sh (Int32.toNatClampNeg v3) (m0_sp m0)) (va_up rr (m0_sp m0) s37.1) ww s24.1 s37.2.1 pl s37.2.2 pn bm tg px fa hb) (up_shelves (inbN g70)) ?_
  refine aw_aload_n dX10_takeIn_71 rfl ?_
  refine aw_aload dX10_takeIn_72 rfl ?_
  refine aw_putf dX10_takeIn_74 ptX10_16_9 at_mint (Nat.le_of_ble_eq_true rfl) (fun _ => ⟨rfl, rfl⟩) ?_
  refine aw_eqh (h2 := HC ((sh (Int32.toNatClampNeg v3)), (m0_fp m0)) (va_up sh (Int32.toNatClampNeg v3) (m0_sp m0)) (va_up rr (m0_sp m0) s37.1) ww s24.1 s37.2.1 pl s37.2.2 pn bm tg px fa hb) up_mint ?_
  refine aw_aload_n dX10_takeIn_77 rfl ?_
  refine aw_getf (v := .ref 30) dX10_takeIn_78 flX10_69_9 at_mint rfl ?_
  refine aw_iconst (v := 0) dX10_takeIn_81 (by decide) ?_
  refine aw_iload_n dX10_takeIn_82 rfl ?_
  obtain ⟨g83, hE⟩ := fgd hE hF
  refine aw_iast (f := fa) dX10_takeIn_83 at_facts (vp_in_iff.mpr g83) ?_
  refine aw_eqh (h2 := HC ((sh (Int32.toNatClampNeg v3)), (m0_fp m0)) (va_up sh (Int32.toNatClampNeg v3) (m0_sp m0)) (va_up rr (m0_sp m0) s37.1) ww s24.1 s37.2.1 pl s37.2.2 pn bm tg px (upd fa (Int32.toNatClampNeg 0) v2) hb) up_facts ?_
  refine aw_aload_n dX10_takeIn_84 rfl ?_
  refine aw_getf (v := .ref 30) dX10_takeIn_85 flX10_69_9 at_mint rfl ?_
  refine aw_iconst (v := 1) dX10_takeIn_88 (by decide) ?_
  refine aw_aload dX10_takeIn_89 rfl ?_
  refine aw_getf (v := .int (qo_f1 s37.2.2)) dX10_takeIn_91 flX10_212_5 at_qoi rfl ?_
  obtain ⟨g94, hE⟩ := fgd hE hF
  refine aw_iast (f := (upd fa (Int32.toNatClampNeg 0) v2)) dX10_takeIn_94 at_facts (vp_in_iff.mpr g94) ?_
  refine aw_eqh (h2 := HC ((sh (Int32.toNatClampNeg v3)), (m0_fp m0)) (va_up sh (Int32.toNatClampNeg v3) (m0_sp m0)) (va_up rr (m0_sp m0) s37.1) ww s24.1 s37.2.1 pl s37.2.2 pn bm tg px (upd (upd fa (Int32.toNatClampNeg 0) v2) (Int32.toNatClampNeg 1) (qo_f1 s37.2.2)) hb) up_facts ?_
  refine aw_aload_n dX10_takeIn_95 rfl ?_
  refine aw_getf (v := .ref 30) dX10_takeIn_96 flX10_69_9 at_mint rfl ?_
  refine aw_iconst (v := 2) dX10_takeIn_99 (by decide) ?_
  refine aw_aload dX10_takeIn_100 rfl ?_
  refine aw_getf (v := .int (qo_f2 s37.2.2)) dX10_takeIn_102 flX10_215_5 at_qoi rfl ?_
  obtain ⟨g105, hE⟩ := fgd hE hF
  refine aw_iast (f := (upd (upd fa (Int32.toNatClampNeg 0) v2) (Int32.toNatClampNeg 1) (qo_f1 s37.2.2))) dX10_takeIn_105 at_facts (vp_in_iff.mpr g105) ?_
  refine aw_eqh (h2 := HC ((sh (Int32.toNatClampNeg v3)), (m0_fp m0)) (va_up sh (Int32.toNatClampNeg v3) (m0_sp m0)) (va_up rr (m0_sp m0) s37.1) ww s24.1 s37.2.1 pl s37.2.2 pn bm tg px (upd (upd (upd fa (Int32.toNatClampNeg 0) v2) (Int32.toNatClampNeg 1) (qo_f1 s37.2.2)) (Int32.toNatClampNeg 2) (qo_f2 s37.2.2)) hb) up_facts ?_
  refine aw_aload_n dX10_takeIn_106 rfl ?_
  refine aw_getf (v := .ref 30) dX10_takeIn_107 flX10_69_9 at_mint rfl ?_
  refine aw_iconst (v := 3) dX10_takeIn_110 (by decide) ?_
  refine aw_aload dX10_takeIn_111 rfl ?_
  refine aw_getf (v := .int (qo_f3 s37.2.2)) dX10_takeIn_113 flX10_218_5 at_qoi rfl ?_
  obtain ⟨g116, hE⟩ := fgd hE hF
  refine aw_iast (f := (upd (upd (upd fa (Int32.toNatClampNeg 0) v2) (Int32.toNatClampNeg 1) (qo_f1 s37.2.2)) (Int32.toNatClampNeg 2) (qo_f2 s37.2.2))) dX10_takeIn_116 at_facts (vp_in_iff.mpr g116) ?_
  refine aw_eqh (h2 := HC ((sh (Int32.toNatClampNeg v3)), (m0_fp m0)) (va_up sh (Int32.toNatClampNeg v3) (m0_sp m0)) (va_up rr (m0_sp m0) s37.1) ww s24.1 s37.2.1 pl s37.2.2 pn bm tg px (upd (upd (upd (upd fa (Int32.toNatClampNeg 0) v2) (Int32.toNatClampNeg 1) (qo_f1 s37.2.2)) (Int32.toNatClampNeg 2) (qo_f2 s37.2.2)) (Int32.toNatClampNeg 3) (qo_f3 s37.2.2)) hb) up_facts ?_
  refine aw_iconst (v := 0) dX10_takeIn_117 (by decide) ?_
  exact aw_iret dX10_takeIn_118 rfl (Nat.zero_le _) (Nat.zero_le _) (Nat.zero_le _) (Nat.zero_le _) ⟨_, _, hE.symm, rfl, rfl, rfl⟩
def F_X10_takeIn_9 (o : Nat) (ww : (Nat → Row))  (m0 : Mnt) (sh : (Nat → Nat)) (rr : (Nat → Ras)) (so : Nat) (sc : Src) (qo : Qoi) (pn : Pnm) (bm : Bmp) (tg : Tga) (px : Pcx) (fa : A) : Out (Mnt × (Nat → Nat) × (Nat → Ras) × Nat × Src × Qoi × Pnm × Bmp × Tga × Pcx × A) Int32 := fok (2 : Int32) (m0, sh, rr, so, sc, qo, pn, bm, tg, px, fa)
set_option maxHeartbeats 1000000 in
set_option maxRecDepth 100000 in
theorem b_X10_takeIn_9 (ww : Nat → Row) (pl : Pal) (hb : aH) (o : Nat) (n : Nat) (ho : isW o)  : Q_X10_takeIn_9 ww pl hb o n (F_X10_takeIn_9 o ww) := by
  intro m0 sh rr so sc qo pn bm tg px fa res hE hF
  unfold F_X10_takeIn_9 at hE
  refine aw_iconst (v := 2) dX10_takeIn_9 (by decide) ?_
  exact aw_iret dX10_takeIn_10 rfl (Nat.zero_le _) (Nat.zero_le _) (Nat.zero_le _) (Nat.zero_le _) ⟨_, _, hE.symm, rfl, rfl, rfl⟩
def F_X10_takeIn (a2 : Int32) (a3 : Int32) (o : Nat) (m0 : Mnt) (sh : (Nat → Nat)) (rr : (Nat → Ras)) (ww : (Nat → Row)) (so : Nat) (sc : Src) (qo : Qoi) (pn : Pnm) (bm : Bmp) (tg : Tga) (px : Pcx) (fa : A) : Out (Mnt × (Nat → Nat) × (Nat → Ras) × Nat × Src × Qoi × Pnm × Bmp × Tga × Pcx × A) Int32 := if a2 < 0 then (F_X10_takeIn_9 o ww m0 sh rr so sc qo pn bm tg px fa) else (if a2 < 5 then (if a2 = 0 then (F_X10_takeIn_10016 o ww a2 a3 m0 sh rr so sc qo pn bm tg px fa) else (if a2 = 1 then (F_X10_takeIn_20016 o ww a2 a3 m0 sh rr so sc qo pn bm tg px fa) else (if a2 = 2 then (F_X10_takeIn_30016 o ww a2 a3 m0 sh rr so sc qo pn bm tg px fa) else (if a2 = 3 then (F_X10_takeIn_40016 o ww a2 a3 m0 sh rr so sc qo pn bm tg px fa) else (if a2 = 4 then (F_X10_takeIn_50016 o ww a2 a3 m0 sh rr so sc qo pn bm tg px fa) else (fno)))))) else (F_X10_takeIn_9 o ww m0 sh rr so sc qo pn bm tg px fa))
set_option maxHeartbeats 1000000 in
set_option maxRecDepth 100000 in
theorem kF_X10_takeIn (m0 : Mnt) (sh : Nat → Nat) (rr : Nat → Ras) (ww : Nat → Row) (so : Nat) (sc : Src) (pl : Pal) (qo : Qoi) (pn : Pnm) (bm : Bmp) (tg : Tga) (px : Pcx) (fa : A) (hb : aH) (o : Nat) (n : Nat) (ho : isW o) (a2 : Int32) (a3 : Int32) (hF : F_X10_takeIn a2 a3 o m0 sh rr ww so sc qo pn bm tg px fa ≠ fno) : AM mX10_takeIn 8 [.ref 0, .ref o, .int a2, .int a3] (HC m0 sh rr ww so sc pl qo pn bm tg px fa hb) n 1 6 (gT (F_X10_takeIn a2 a3 o m0 sh rr ww so sc qo pn bm tg px fa)) (6 * gT (F_X10_takeIn a2 a3 o m0 sh rr ww so sc qo pn bm tg px fa)) (P_X10_takeIn ww pl hb o n (F_X10_takeIn a2 a3 o m0 sh rr ww so sc qo pn bm tg px fa)) (fun _ _ _ => False) := by
  generalize hE : F_X10_takeIn a2 a3 o m0 sh rr ww so sc qo pn bm tg px fa = res at hF ⊢
  refine aw_ofH (by decide +kernel) (by decide) (Nat.le_of_ble_eq_true rfl) ?_
  unfold F_X10_takeIn at hE
  refine aw_iload_n dX10_takeIn_0 rfl ?_
  refine aw_if_lt (tgt := 9) dX10_takeIn_1 (by decide) (fun c1 => ?_) (fun c1 => ?_)
  · replace hE := fit hE c1
    exact aw_lv _ (fun _ h => absurd h List.not_mem_nil) (b_X10_takeIn_9 ww pl hb o n ho  m0 sh rr so sc qo pn bm tg px fa _ hE hF)
  · replace hE := fif hE c1
    refine aw_iload_n dX10_takeIn_4 rfl ?_
    refine aw_iconst (v := 5) dX10_takeIn_5 (by decide) ?_
    refine aw_icmp_lt (tgt := 11) dX10_takeIn_6 (by decide) (fun c6 => ?_) (fun c6 => ?_)
    · replace hE := fit hE c6
      refine aw_aload_n dX10_takeIn_11 rfl ?_
      refine aw_getf (v := .ref 20) dX10_takeIn_12 flX10_48_9 at_mint rfl ?_
      refine aw_iload_n dX10_takeIn_15 rfl ?_
      by_cases e16_0 : a2 = 0
      · replace hE := fit hE e16_0
        refine aw_aald (y := 21) dX10_takeIn_16 at_formats (vp_in_iff.mpr (by rw [e16_0]; decide)) (by rw [e16_0]; rfl) ?_
        exact aw_lv _ (List.forall_mem_cons.mpr ⟨rfl, (List.forall_mem_cons.mpr ⟨rfl, (List.forall_mem_cons.mpr ⟨rfl, (List.forall_mem_cons.mpr ⟨rfl, fun _ h => absurd h List.not_mem_nil⟩)⟩)⟩)⟩) (b_X10_takeIn_10016 ww pl hb o n ho  a2 a3 m0 sh rr so sc qo pn bm tg px fa _ hE hF)
      replace hE := fif hE e16_0
      by_cases e16_1 : a2 = 1
      · replace hE := fit hE e16_1
        refine aw_aald (y := 23) dX10_takeIn_16 at_formats (vp_in_iff.mpr (by rw [e16_1]; decide)) (by rw [e16_1]; rfl) ?_
        exact aw_lv _ (List.forall_mem_cons.mpr ⟨rfl, (List.forall_mem_cons.mpr ⟨rfl, (List.forall_mem_cons.mpr ⟨rfl, (List.forall_mem_cons.mpr ⟨rfl, fun _ h => absurd h List.not_mem_nil⟩)⟩)⟩)⟩) (b_X10_takeIn_20016 ww pl hb o n ho  a2 a3 m0 sh rr so sc qo pn bm tg px fa _ hE hF)
      replace hE := fif hE e16_1
      by_cases e16_2 : a2 = 2
      · replace hE := fit hE e16_2
        refine aw_aald (y := 24) dX10_takeIn_16 at_formats (vp_in_iff.mpr (by rw [e16_2]; decide)) (by rw [e16_2]; rfl) ?_
        exact aw_lv _ (List.forall_mem_cons.mpr ⟨rfl, (List.forall_mem_cons.mpr ⟨rfl, (List.forall_mem_cons.mpr ⟨rfl, (List.forall_mem_cons.mpr ⟨rfl, fun _ h => absurd h List.not_mem_nil⟩)⟩)⟩)⟩) (b_X10_takeIn_30016 ww pl hb o n ho  a2 a3 m0 sh rr so sc qo pn bm tg px fa _ hE hF)
      replace hE := fif hE e16_2
      by_cases e16_3 : a2 = 3
      · replace hE := fit hE e16_3
        refine aw_aald (y := 26) dX10_takeIn_16 at_formats (vp_in_iff.mpr (by rw [e16_3]; decide)) (by rw [e16_3]; rfl) ?_
        exact aw_lv _ (List.forall_mem_cons.mpr ⟨rfl, (List.forall_mem_cons.mpr ⟨rfl, (List.forall_mem_cons.mpr ⟨rfl, (List.forall_mem_cons.mpr ⟨rfl, fun _ h => absurd h List.not_mem_nil⟩)⟩)⟩)⟩) (b_X10_takeIn_40016 ww pl hb o n ho  a2 a3 m0 sh rr so sc qo pn bm tg px fa _ hE hF)
      replace hE := fif hE e16_3
      by_cases e16_4 : a2 = 4
      · replace hE := fit hE e16_4
        refine aw_aald (y := 28) dX10_takeIn_16 at_formats (vp_in_iff.mpr (by rw [e16_4]; decide)) (by rw [e16_4]; rfl) ?_
        exact aw_lv _ (List.forall_mem_cons.mpr ⟨rfl, (List.forall_mem_cons.mpr ⟨rfl, (List.forall_mem_cons.mpr ⟨rfl, (List.forall_mem_cons.mpr ⟨rfl, fun _ h => absurd h List.not_mem_nil⟩)⟩)⟩)⟩) (b_X10_takeIn_50016 ww pl hb o n ho  a2 a3 m0 sh rr so sc qo pn bm tg px fa _ hE hF)
      replace hE := fif hE e16_4
      exact (hF hE.symm).elim
    · replace hE := fif hE c6
      exact aw_lv _ (fun _ h => absurd h List.not_mem_nil) (b_X10_takeIn_9 ww pl hb o n ho  m0 sh rr so sc qo pn bm tg px fa _ hE hF)
