def P_X11_holds (mw : MW) (mr : MR) (ms : Nat) (mt : A) (mu : A) (dd : A) (wi : A) (hi : A) (gt : A) (sp : A) (ta : A) (li : A) (co : A) (hb : aH) (n : Nat) (res : Out (MO × A) Int32) : Option Value → aH → Nat → Prop := fun r1 h2 n2 => ∃ (a : Int32) (s : (MO × A)), res = fok a s ∧ r1 = some (.int a) ∧ h2 = HM s.1 mw mr ms mt mu dd wi hi gt sp ta li s.2 co hb ∧ n = n2
abbrev Q_X11_holds_34 (mw : MW) (mr : MR) (ms : Nat) (mt : A) (mu : A) (dd : A) (wi : A) (hi : A) (gt : A) (sp : A) (ta : A) (li : A) (co : A) (hb : aH) (n : Nat) (k : MO → A → Out (MO × A) Int32) : Prop := ∀ (mo : MO) (sr : A) (res : Out (MO × A) Int32), k mo sr = res → res ≠ fno → AW (fun _ _ => True) mX11_holds (rmD 4 0 0) 0 0 (P_X11_holds mw mr ms mt mu dd wi hi gt sp ta li co hb n res) (fun _ _ _ => False) 0 0 34 [] [] (HM mo mw mr ms mt mu dd wi hi gt sp ta li sr co hb) n
def F_X11_holds_34 (dd : A) (wi : A) (hi : A)  (mo : MO) (sr : A) : Out (MO × A) Int32 := fok (0 : Int32) (mo, sr)
set_option maxHeartbeats 1000000 in
set_option maxRecDepth 100000 in
theorem b_X11_holds_34 (mw : MW) (mr : MR) (ms : Nat) (mt : A) (mu : A) (dd : A) (wi : A) (hi : A) (gt : A) (sp : A) (ta : A) (li : A) (co : A) (hb : aH) (n : Nat)   : Q_X11_holds_34 mw mr ms mt mu dd wi hi gt sp ta li co hb n (F_X11_holds_34 dd wi hi) := by
  intro mo sr res hE hF
  unfold F_X11_holds_34 at hE
  refine aw_iconst (v := 0) dX11_holds_34 (by decide) ?_
  exact aw_zret dX11_holds_35 rfl (narB (by decide)) (Nat.zero_le _) (Nat.zero_le _) (Nat.zero_le _) (Nat.zero_le _) ⟨_, _, hE.symm, rfl, rfl, rfl⟩
def F_X11_holds (a1 : Int32) (a2 : Int32) (mo : MO) (dd : A) (wi : A) (hi : A) (sr : A) : Out (MO × A) Int32 := if (F_X11_isShelf a1) = 0 then (F_X11_holds_34 dd wi hi ((mo_taped mo), 0, (mo_tf mo), (mo_t1 mo), (mo_t2 mo), (mo_t3 mo), (mo_fp mo)) sr) else (if inb a1 4 then (if (wi (Int32.toNatClampNeg a1)) ≤ 0 then (F_X11_holds_34 dd wi hi ((mo_taped mo), 0, (mo_tf mo), (mo_t1 mo), (mo_t2 mo), (mo_t3 mo), (mo_fp mo)) sr) else (fon (F_X11_canHold a1 a2 dd wi hi sr) (fun z24 s24 => if z24 = 0 then (F_X11_holds_34 dd wi hi ((mo_taped mo), 0, (mo_tf mo), (mo_t1 mo), (mo_t2 mo), (mo_t3 mo), (mo_fp mo)) s24) else (fok (1 : Int32) (((mo_taped mo), 0, (mo_tf mo), (mo_t1 mo), (mo_t2 mo), (mo_t3 mo), (mo_fp mo)), s24))) (fun _ _ => fno))) else fno)
set_option maxHeartbeats 1000000 in
set_option maxRecDepth 100000 in
theorem kF_X11_holds (mo : MO) (mw : MW) (mr : MR) (ms : Nat) (mt : A) (mu : A) (dd : A) (wi : A) (hi : A) (gt : A) (sp : A) (ta : A) (li : A) (sr : A) (co : A) (hb : aH) (n : Nat)  (a1 : Int32) (a2 : Int32) (hF : F_X11_holds a1 a2 mo dd wi hi sr ≠ fno) : AM mX11_holds 4 [.ref 31, .int a1, .int a2] (HM mo mw mr ms mt mu dd wi hi gt sp ta li sr co hb) n 0 0 0 0 (P_X11_holds mw mr ms mt mu dd wi hi gt sp ta li co hb n (F_X11_holds a1 a2 mo dd wi hi sr)) (fun _ _ _ => False) := by
  generalize hE : F_X11_holds a1 a2 mo dd wi hi sr = res at hF ⊢
  refine aw_of (by decide +kernel) rfl (Nat.le_of_ble_eq_true rfl) ?_
  unfold F_X11_holds at hE
  refine aw_aload_n dX11_holds_0 rfl ?_
  refine aw_iconst (v := 0) dX11_holds_1 (by decide) ?_
  refine aw_putf dX11_holds_2 ptX11_61_10 at_mod (Nat.le_of_ble_eq_true rfl) ⟨rfl, rfl⟩ ?_
  refine aw_eqh (h2 := HM ((mo_taped mo), 0, (mo_tf mo), (mo_t1 mo), (mo_t2 mo), (mo_t3 mo), (mo_fp mo)) mw mr ms mt mu dd wi hi gt sp ta li sr co hb) up_mod ?_
  refine aw_iload_n dX11_holds_5 rfl ?_
  refine aw_callS dX11_holds_6  csX11_245 rfl (kF_X11_isShelf _ _ a1) rfl (Nat.le_of_ble_eq_true rfl) (by decide) (by decide) (by decide) (by decide) (fun _ _ _ hf => False.elim hf) (fun r6 h6 n6 hp6 => ?_)
  obtain ⟨rfl, rfl, rfl⟩ := hp6
  refine aw_if_eq (tgt := 34) dX11_holds_9 (by decide) (fun c9 => ?_) (fun c9 => ?_)
  · replace hE := fit hE c9
    exact aw_lv _ (fun _ h => absurd h List.not_mem_nil) (b_X11_holds_34 mw mr ms mt mu dd wi hi gt sp ta li co hb n   ((mo_taped mo), 0, (mo_tf mo), (mo_t1 mo), (mo_t2 mo), (mo_t3 mo), (mo_fp mo)) sr _ hE hF)
  · replace hE := fif hE c9
    refine aw_aload_n dX11_holds_12 rfl ?_
    refine aw_getf (v := .ref 35) dX11_holds_13 flX11_21_10 at_mod rfl ?_
    refine aw_iload_n dX11_holds_16 rfl ?_
    obtain ⟨g17, hE⟩ := fgd hE hF
    refine aw_iald (f := wi) dX11_holds_17 at_mwide (vp_in_iff.mpr g17) ?_
    refine aw_if_le (tgt := 34) dX11_holds_18 (by decide) (fun c18 => ?_) (fun c18 => ?_)
    · replace hE := fit hE c18
      exact aw_lv _ (fun _ h => absurd h List.not_mem_nil) (b_X11_holds_34 mw mr ms mt mu dd wi hi gt sp ta li co hb n   ((mo_taped mo), 0, (mo_tf mo), (mo_t1 mo), (mo_t2 mo), (mo_t3 mo), (mo_fp mo)) sr _ hE hF)
    · replace hE := fif hE c18
      refine aw_aload_n dX11_holds_21 rfl ?_
      refine aw_iload_n dX11_holds_22 rfl ?_
      refine aw_iload_n dX11_holds_23 rfl ?_
      refine aw_callV dX11_holds_24 at_mod cvX11_328 rfl (kF_X11_canHold ((mo_taped mo), 0, (mo_tf mo), (mo_t1 mo), (mo_t2 mo), (mo_t3 mo), (mo_fp mo)) mw mr ms mt mu dd wi hi gt sp ta li sr co hb _  a1 a2 (fon_ne hE hF)) rfl (Nat.le_of_ble_eq_true rfl) (by decide) (by decide) (by decide) (by decide) (fun _ _ _ hf => False.elim hf) (fun r24 h24 n24 hp24 => ?_)
      obtain ⟨z24, s24, e24, rfl, rfl, rfl⟩ := hp24
      replace hE := fon_ok e24 hE
      refine aw_if_eq (tgt := 34) dX11_holds_27 (by decide) (fun c27 => ?_) (fun c27 => ?_)
      · replace hE := fit hE c27
        exact aw_lv _ (fun _ h => absurd h List.not_mem_nil) (b_X11_holds_34 mw mr ms mt mu dd wi hi gt sp ta li co hb n   ((mo_taped mo), 0, (mo_tf mo), (mo_t1 mo), (mo_t2 mo), (mo_t3 mo), (mo_fp mo)) s24 _ hE hF)
      · replace hE := fif hE c27
        refine aw_iconst (v := 1) dX11_holds_30 (by decide) ?_
        refine aw_goto (tgt := 35) dX11_holds_31 (by decide) ?_
        exact aw_zret dX11_holds_35 rfl (narB (by decide)) (Nat.zero_le _) (Nat.zero_le _) (Nat.zero_le _) (Nat.zero_le _) ⟨_, _, hE.symm, rfl, rfl, rfl⟩
def P_X10_fits (m0 : Mnt) (sh : Nat → Nat) (rr : Nat → Ras) (r : Nat) (x : Ras) (ww : Nat → Row) (so : Nat) (sc : Src) (qo : Qoi) (pn : Pnm) (bm : Bmp) (tg : Tga) (px : Pcx) (fa : A) (hb : aH) (n : Nat) (res : Out Pal Int32) : Option Value → aH → Nat → Prop := fun r1 h2 n2 => ∃ (a : Int32) (s : Pal), res = fok a s ∧ r1 = some (.int a) ∧ h2 = HC m0 sh (va_up rr r x) ww so sc s qo pn bm tg px fa hb ∧ n = n2
abbrev Q_X10_fits_113 (m0 : Mnt) (sh : Nat → Nat) (rr : Nat → Ras) (r : Nat) (x : Ras) (ww : Nat → Row) (so : Nat) (sc : Src) (qo : Qoi) (pn : Pnm) (bm : Bmp) (tg : Tga) (px : Pcx) (fa : A) (hb : aH) (n : Nat) (k : Pal → Out Pal Int32) : Prop := ∀ (pl : Pal) (res : Out Pal Int32), k pl = res → res ≠ fno → AW (fun _ _ => True) mX10_fits (rmD 4 0 0) 0 0 (P_X10_fits m0 sh rr r x ww so sc qo pn bm tg px fa hb n res) (fun _ _ _ => False) 0 0 113 [] [] (HC m0 sh (va_up rr r x) ww so sc pl qo pn bm tg px fa hb) n
abbrev Q_X10_fits_139 (m0 : Mnt) (sh : Nat → Nat) (rr : Nat → Ras) (r : Nat) (x : Ras) (ww : Nat → Row) (so : Nat) (sc : Src) (qo : Qoi) (pn : Pnm) (bm : Bmp) (tg : Tga) (px : Pcx) (fa : A) (hb : aH) (n : Nat) (k : Pal → Out Pal Int32) : Prop := ∀ (pl : Pal) (res : Out Pal Int32), k pl = res → res ≠ fno → AW (fun _ _ => True) mX10_fits (rmD 4 0 0) 0 0 (P_X10_fits m0 sh rr r x ww so sc qo pn bm tg px fa hb n res) (fun _ _ _ => False) 0 0 139 [] [] (HC m0 sh (va_up rr r x) ww so sc pl qo pn bm tg px fa hb) n
def F_X10_fits_139 (x : Ras)  (pl : Pal) : Out Pal Int32 := fok (0 : Int32) pl
set_option maxHeartbeats 1000000 in
set_option maxRecDepth 100000 in
theorem b_X10_fits_139 (m0 : Mnt) (sh : Nat → Nat) (rr : Nat → Ras) (r : Nat) (x : Ras) (ww : Nat → Row) (so : Nat) (sc : Src) (qo : Qoi) (pn : Pnm) (bm : Bmp) (tg : Tga) (px : Pcx) (fa : A) (hb : aH) (n : Nat) (hr : isR r)  : Q_X10_fits_139 m0 sh rr r x ww so sc qo pn bm tg px fa hb n (F_X10_fits_139 x) := by
  intro pl res hE hF
  unfold F_X10_fits_139 at hE
  refine aw_iconst (v := 0) dX10_fits_139 (by decide) ?_
  exact aw_zret dX10_fits_140 rfl (narB (by decide)) (Nat.zero_le _) (Nat.zero_le _) (Nat.zero_le _) (Nat.zero_le _) ⟨_, _, hE.symm, rfl, rfl, rfl⟩
def F_X10_fits_113 (x : Ras)  (pl : Pal) : Out Pal Int32 := fok (0 : Int32) pl
set_option maxHeartbeats 1000000 in
set_option maxRecDepth 100000 in
theorem b_X10_fits_113 (m0 : Mnt) (sh : Nat → Nat) (rr : Nat → Ras) (r : Nat) (x : Ras) (ww : Nat → Row) (so : Nat) (sc : Src) (qo : Qoi) (pn : Pnm) (bm : Bmp) (tg : Tga) (px : Pcx) (fa : A) (hb : aH) (n : Nat) (hr : isR r)  : Q_X10_fits_113 m0 sh rr r x ww so sc qo pn bm tg px fa hb n (F_X10_fits_113 x) := by
  intro pl res hE hF
  unfold F_X10_fits_113 at hE
  refine aw_iconst (v := 0) dX10_fits_113 (by decide) ?_
  exact aw_zret dX10_fits_114 rfl (narB (by decide)) (Nat.zero_le _) (Nat.zero_le _) (Nat.zero_le _) (Nat.zero_le _) ⟨_, _, hE.symm, rfl, rfl, rfl⟩
def F_X10_fits (a2 : Int32) (x : Ras) (pl : Pal) : Out Pal Int32 := if a2 = 0 then (fok (1 : Int32) pl) else (if a2 = 1 then (fon (F_X7_isPlain x) (fun z91 s91 => if isB z91 then (fok (z91 : Int32) pl) else fno) (fun _ _ => fno)) else (if a2 = 2 then (fon (F_X7_isOpaque x) (fun z96 s96 => if z96 = 0 then (F_X10_fits_113 x pl) else (fon (F_X7_isGray x) (fun z103 s103 => if z103 = 0 then (F_X10_fits_113 x pl) else (fok (1 : Int32) pl)) (fun _ _ => fno))) (fun _ _ => fno)) else (if a2 = 3 then (fon (F_X7_isOpaque x) (fun z116 s116 => if isB z116 then (fok (z116 : Int32) pl) else fno) (fun _ _ => fno)) else (if a2 = 4 then (fon (F_X7_isPlain x) (fun z91 s91 => if isB z91 then (fok (z91 : Int32) pl) else fno) (fun _ _ => fno)) else (if a2 = 5 then (fon (F_X7_isOpaque x) (fun z96 s96 => if z96 = 0 then (F_X10_fits_113 x pl) else (fon (F_X7_isGray x) (fun z103 s103 => if z103 = 0 then (F_X10_fits_113 x pl) else (fok (1 : Int32) pl)) (fun _ _ => fno))) (fun _ _ => fno)) else (if a2 = 6 then (fon (F_X7_isOpaque x) (fun z116 s116 => if isB z116 then (fok (z116 : Int32) pl) else fno) (fun _ _ => fno)) else (if a2 = 7 then (fon (F_X7_isOpaque x) (fun z116 s116 => if isB z116 then (fok (z116 : Int32) pl) else fno) (fun _ _ => fno)) else (if a2 = 8 then (fon (F_X7_isOpaque x) (fun z121 s121 => if z121 = 0 then (F_X10_fits_139 x pl) else (fon (F_X10_hasFewColours x pl) (fun z129 s129 => if z129 = 0 then (F_X10_fits_139 x s129) else (fok (1 : Int32) s129)) (fun _ _ => fno))) (fun _ _ => fno)) else (if a2 = 9 then (fon (F_X7_isOpaque x) (fun z121 s121 => if z121 = 0 then (F_X10_fits_139 x pl) else (fon (F_X10_hasFewColours x pl) (fun z129 s129 => if z129 = 0 then (F_X10_fits_139 x s129) else (fok (1 : Int32) s129)) (fun _ _ => fno))) (fun _ _ => fno)) else (if a2 = 10 then (fok (1 : Int32) pl) else (if a2 = 11 then (fok (1 : Int32) pl) else (if a2 = 12 then (fon (F_X7_isOpaque x) (fun z96 s96 => if z96 = 0 then (F_X10_fits_113 x pl) else (fon (F_X7_isGray x) (fun z103 s103 => if z103 = 0 then (F_X10_fits_113 x pl) else (fok (1 : Int32) pl)) (fun _ _ => fno))) (fun _ _ => fno)) else (if a2 = 13 then (fon (F_X7_isOpaque x) (fun z96 s96 => if z96 = 0 then (F_X10_fits_113 x pl) else (fon (F_X7_isGray x) (fun z103 s103 => if z103 = 0 then (F_X10_fits_113 x pl) else (fok (1 : Int32) pl)) (fun _ _ => fno))) (fun _ _ => fno)) else (if a2 = 14 then (fon (F_X10_hasFewColours x pl) (fun z143 s143 => if isB z143 then (fok (z143 : Int32) s143) else fno) (fun _ _ => fno)) else (if a2 = 15 then (fon (F_X10_hasFewColours x pl) (fun z143 s143 => if isB z143 then (fok (z143 : Int32) s143) else fno) (fun _ _ => fno)) else (if a2 = 16 then (fon (F_X7_isOpaque x) (fun z116 s116 => if isB z116 then (fok (z116 : Int32) pl) else fno) (fun _ _ => fno)) else (if a2 = 17 then (fon (F_X7_isOpaque x) (fun z121 s121 => if z121 = 0 then (F_X10_fits_139 x pl) else (fon (F_X10_hasFewColours x pl) (fun z129 s129 => if z129 = 0 then (F_X10_fits_139 x s129) else (fok (1 : Int32) s129)) (fun _ _ => fno))) (fun _ _ => fno)) else (fok (0 : Int32) pl))))))))))))))))))
set_option maxHeartbeats 1000000 in
set_option maxRecDepth 100000 in
theorem kF_X10_fits (m0 : Mnt) (sh : Nat → Nat) (rr : Nat → Ras) (r : Nat) (x : Ras) (ww : Nat → Row) (so : Nat) (sc : Src) (pl : Pal) (qo : Qoi) (pn : Pnm) (bm : Bmp) (tg : Tga) (px : Pcx) (fa : A) (hb : aH) (n : Nat) (hr : isR r) (a2 : Int32) (hF : F_X10_fits a2 x pl ≠ fno) : AM mX10_fits 4 [.ref 0, .ref r, .int a2] (HC m0 sh (va_up rr r x) ww so sc pl qo pn bm tg px fa hb) n 0 0 0 0 (P_X10_fits m0 sh rr r x ww so sc qo pn bm tg px fa hb n (F_X10_fits a2 x pl)) (fun _ _ _ => False) := by
  generalize hE : F_X10_fits a2 x pl = res at hF ⊢
  refine aw_of (by decide +kernel) rfl (Nat.le_of_ble_eq_true rfl) ?_
  unfold F_X10_fits at hE
  refine aw_iload_n dX10_fits_0 rfl ?_
  by_cases e1_0 : a2 = 0
  · replace hE := fit hE e1_0
    refine aw_tableIn (tgt := 88) dX10_fits_1 (by rw [e1_0]; decide) (by rw [e1_0]; decide) (off := 87) (by rw [e1_0]; decide) (by decide) ?_
    refine aw_iconst (v := 1) dX10_fits_88 (by decide) ?_
    exact aw_zret dX10_fits_89 rfl (narB (by decide)) (Nat.zero_le _) (Nat.zero_le _) (Nat.zero_le _) (Nat.zero_le _) ⟨_, _, hE.symm, rfl, rfl, rfl⟩
  replace hE := fif hE e1_0
  by_cases e1_1 : a2 = 1
  · replace hE := fit hE e1_1
    refine aw_tableIn (tgt := 90) dX10_fits_1 (by rw [e1_1]; decide) (by rw [e1_1]; decide) (off := 89) (by rw [e1_1]; decide) (by decide) ?_
    refine aw_aload_n dX10_fits_90 rfl ?_
    refine aw_callV dX10_fits_91 (at_ras hr) cvX10_178 rfl (kF_X7_isPlain m0 sh rr r x ww so sc pl qo pn bm tg px fa hb _ hr  (fon_ne hE hF)) rfl (Nat.le_of_ble_eq_true rfl) (by decide) (by decide) (by decide) (by decide) (fun _ _ _ hf => False.elim hf) (fun r91 h91 n91 hp91 => ?_)
    obtain ⟨z91, s91, e91, rfl, rfl, rfl⟩ := hp91
    replace hE := fon_ok e91 hE
    obtain ⟨g94, hE⟩ := fgd hE hF
    exact aw_zret dX10_fits_94 rfl (narB g94) (Nat.zero_le _) (Nat.zero_le _) (Nat.zero_le _) (Nat.zero_le _) ⟨_, _, hE.symm, rfl, rfl, rfl⟩
  replace hE := fif hE e1_1
  by_cases e1_2 : a2 = 2
  · replace hE := fit hE e1_2
    refine aw_tableIn (tgt := 95) dX10_fits_1 (by rw [e1_2]; decide) (by rw [e1_2]; decide) (off := 94) (by rw [e1_2]; decide) (by decide) ?_
    refine aw_aload_n dX10_fits_95 rfl ?_
    refine aw_callV dX10_fits_96 (at_ras hr) cvX10_171 rfl (kF_X7_isOpaque m0 sh rr r x ww so sc pl qo pn bm tg px fa hb _ hr  (fon_ne hE hF)) rfl (Nat.le_of_ble_eq_true rfl) (by decide) (by decide) (by decide) (by decide) (fun _ _ _ hf => False.elim hf) (fun r96 h96 n96 hp96 => ?_)
    obtain ⟨z96, s96, e96, rfl, rfl, rfl⟩ := hp96
    replace hE := fon_ok e96 hE
    refine aw_if_eq (tgt := 113) dX10_fits_99 (by decide) (fun c99 => ?_) (fun c99 => ?_)
    · replace hE := fit hE c99
      exact aw_lv _ (fun _ h => absurd h List.not_mem_nil) (b_X10_fits_113 m0 sh rr r x ww so sc qo pn bm tg px fa hb n hr  pl _ hE hF)
    · replace hE := fif hE c99
      refine aw_aload_n dX10_fits_102 rfl ?_
      refine aw_callV dX10_fits_103 (at_ras hr) cvX10_175 rfl (kF_X7_isGray m0 sh rr r x ww so sc pl qo pn bm tg px fa hb _ hr  (fon_ne hE hF)) rfl (Nat.le_of_ble_eq_true rfl) (by decide) (by decide) (by decide) (by decide) (fun _ _ _ hf => False.elim hf) (fun r103 h103 n103 hp103 => ?_)
      obtain ⟨z103, s103, e103, rfl, rfl, rfl⟩ := hp103
      replace hE := fon_ok e103 hE
      refine aw_if_eq (tgt := 113) dX10_fits_106 (by decide) (fun c106 => ?_) (fun c106 => ?_)
      · replace hE := fit hE c106
        exact aw_lv _ (fun _ h => absurd h List.not_mem_nil) (b_X10_fits_113 m0 sh rr r x ww so sc qo pn bm tg px fa hb n hr  pl _ hE hF)
      · replace hE := fif hE c106
        refine aw_iconst (v := 1) dX10_fits_109 (by decide) ?_
        refine aw_goto (tgt := 114) dX10_fits_110 (by decide) ?_
        exact aw_zret dX10_fits_114 rfl (narB (by decide)) (Nat.zero_le _) (Nat.zero_le _) (Nat.zero_le _) (Nat.zero_le _) ⟨_, _, hE.symm, rfl, rfl, rfl⟩
  replace hE := fif hE e1_2
  by_cases e1_3 : a2 = 3
  · replace hE := fit hE e1_3
    refine aw_tableIn (tgt := 115) dX10_fits_1 (by rw [e1_3]; decide) (by rw [e1_3]; decide) (off := 114) (by rw [e1_3]; decide) (by decide) ?_
    refine aw_aload_n dX10_fits_115 rfl ?_
    refine aw_callV dX10_fits_116 (at_ras hr) cvX10_171 rfl (kF_X7_isOpaque m0 sh rr r x ww so sc pl qo pn bm tg px fa hb _ hr  (fon_ne hE hF)) rfl (Nat.le_of_ble_eq_true rfl) (by decide) (by decide) (by decide) (by decide) (fun _ _ _ hf => False.elim hf) (fun r116 h116 n116 hp116 => ?_)
    obtain ⟨z116, s116, e116, rfl, rfl, rfl⟩ := hp116
    replace hE := fon_ok e116 hE
    obtain ⟨g119, hE⟩ := fgd hE hF
    exact aw_zret dX10_fits_119 rfl (narB g119) (Nat.zero_le _) (Nat.zero_le _) (Nat.zero_le _) (Nat.zero_le _) ⟨_, _, hE.symm, rfl, rfl, rfl⟩
  replace hE := fif hE e1_3
  by_cases e1_4 : a2 = 4
  · replace hE := fit hE e1_4
    refine aw_tableIn (tgt := 90) dX10_fits_1 (by rw [e1_4]; decide) (by rw [e1_4]; decide) (off := 89) (by rw [e1_4]; decide) (by decide) ?_
    refine aw_aload_n dX10_fits_90 rfl ?_
    refine aw_callV dX10_fits_91 (at_ras hr) cvX10_178 rfl (kF_X7_isPlain m0 sh rr r x ww so sc pl qo pn bm tg px fa hb _ hr  (fon_ne hE hF)) rfl (Nat.le_of_ble_eq_true rfl) (by decide) (by decide) (by decide) (by decide) (fun _ _ _ hf => False.elim hf) (fun r91 h91 n91 hp91 => ?_)
    obtain ⟨z91, s91, e91, rfl, rfl, rfl⟩ := hp91
    replace hE := fon_ok e91 hE
    obtain ⟨g94, hE⟩ := fgd hE hF
    exact aw_zret dX10_fits_94 rfl (narB g94) (Nat.zero_le _) (Nat.zero_le _) (Nat.zero_le _) (Nat.zero_le _) ⟨_, _, hE.symm, rfl, rfl, rfl⟩
  replace hE := fif hE e1_4
  by_cases e1_5 : a2 = 5
  · replace hE := fit hE e1_5
    refine aw_tableIn (tgt := 95) dX10_fits_1 (by rw [e1_5]; decide) (by rw [e1_5]; decide) (off := 94) (by rw [e1_5]; decide) (by decide) ?_
    refine aw_aload_n dX10_fits_95 rfl ?_
    refine aw_callV dX10_fits_96 (at_ras hr) cvX10_171 rfl (kF_X7_isOpaque m0 sh rr r x ww so sc pl qo pn bm tg px fa hb _ hr  (fon_ne hE hF)) rfl (Nat.le_of_ble_eq_true rfl) (by decide) (by decide) (by decide) (by decide) (fun _ _ _ hf => False.elim hf) (fun r96 h96 n96 hp96 => ?_)
    obtain ⟨z96, s96, e96, rfl, rfl, rfl⟩ := hp96
    replace hE := fon_ok e96 hE
    refine aw_if_eq (tgt := 113) dX10_fits_99 (by decide) (fun c99 => ?_) (fun c99 => ?_)
    · replace hE := fit hE c99
      exact aw_lv _ (fun _ h => absurd h List.not_mem_nil) (b_X10_fits_113 m0 sh rr r x ww so sc qo pn bm tg px fa hb n hr  pl _ hE hF)
    · replace hE := fif hE c99
      refine aw_aload_n dX10_fits_102 rfl ?_
      refine aw_callV dX10_fits_103 (at_ras hr) cvX10_175 rfl (kF_X7_isGray m0 sh rr r x ww so sc pl qo pn bm tg px fa hb _ hr  (fon_ne hE hF)) rfl (Nat.le_of_ble_eq_true rfl) (by decide) (by decide) (by decide) (by decide) (fun _ _ _ hf => False.elim hf) (fun r103 h103 n103 hp103 => ?_)
      obtain ⟨z103, s103, e103, rfl, rfl, rfl⟩ := hp103
      replace hE := fon_ok e103 hE
      refine aw_if_eq (tgt := 113) dX10_fits_106 (by decide) (fun c106 => ?_) (fun c106 => ?_)
      · replace hE := fit hE c106
        exact aw_lv _ (fun _ h => absurd h List.not_mem_nil) (b_X10_fits_113 m0 sh rr r x ww so sc qo pn bm tg px fa hb n hr  pl _ hE hF)
      · replace hE := fif hE c106
        refine aw_iconst (v := 1) dX10_fits_109 (by decide) ?_
        refine aw_goto (tgt := 114) dX10_fits_110 (by decide) ?_
        exact aw_zret dX10_fits_114 rfl (narB (by decide)) (Nat.zero_le _) (Nat.zero_le _) (Nat.zero_le _) (Nat.zero_le _) ⟨_, _, hE.symm, rfl, rfl, rfl⟩
  replace hE := fif hE e1_5
  by_cases e1_6 : a2 = 6
  · replace hE := fit hE e1_6
    refine aw_tableIn (tgt := 115) dX10_fits_1 (by rw [e1_6]; decide) (by rw [e1_6]; decide) (off := 114) (by rw [e1_6]; decide) (by decide) ?_
    refine aw_aload_n dX10_fits_115 rfl ?_
    refine aw_callV dX10_fits_116 (at_ras hr) cvX10_171 rfl (kF_X7_isOpaque m0 sh rr r x ww so sc pl qo pn bm tg px fa hb _ hr  (fon_ne hE hF)) rfl (Nat.le_of_ble_eq_true rfl) (by decide) (by decide) (by decide) (by decide) (fun _ _ _ hf => False.elim hf) (fun r116 h116 n116 hp116 => ?_)
    obtain ⟨z116, s116, e116, rfl, rfl, rfl⟩ := hp116
    replace hE := fon_ok e116 hE
    obtain ⟨g119, hE⟩ := fgd hE hF
    exact aw_zret dX10_fits_119 rfl (narB g119) (Nat.zero_le _) (Nat.zero_le _) (Nat.zero_le _) (Nat.zero_le _) ⟨_, _, hE.symm, rfl, rfl, rfl⟩
  replace hE := fif hE e1_6
  by_cases e1_7 : a2 = 7
  · replace hE := fit hE e1_7
    refine aw_tableIn (tgt := 115) dX10_fits_1 (by rw [e1_7]; decide) (by rw [e1_7]; decide) (off := 114) (by rw [e1_7]; decide) (by decide) ?_
    refine aw_aload_n dX10_fits_115 rfl ?_
    refine aw_callV dX10_fits_116 (at_ras hr) cvX10_171 rfl (kF_X7_isOpaque m0 sh rr r x ww so sc pl qo pn bm tg px fa hb _ hr  (fon_ne hE hF)) rfl (Nat.le_of_ble_eq_true rfl) (by decide) (by decide) (by decide) (by decide) (fun _ _ _ hf => False.elim hf) (fun r116 h116 n116 hp116 => ?_)
    obtain ⟨z116, s116, e116, rfl, rfl, rfl⟩ := hp116
    replace hE := fon_ok e116 hE
    obtain ⟨g119, hE⟩ := fgd hE hF
    exact aw_zret dX10_fits_119 rfl (narB g119) (Nat.zero_le _) (Nat.zero_le _) (Nat.zero_le _) (Nat.zero_le _) ⟨_, _, hE.symm, rfl, rfl, rfl⟩
  replace hE := fif hE e1_7
  by_cases e1_8 : a2 = 8
  · replace hE := fit hE e1_8
    refine aw_tableIn (tgt := 120) dX10_fits_1 (by rw [e1_8]; decide) (by rw [e1_8]; decide) (off := 119) (by rw [e1_8]; decide) (by decide) ?_
    refine aw_aload_n dX10_fits_120 rfl ?_
    refine aw_callV dX10_fits_121 (at_ras hr) cvX10_171 rfl (kF_X7_isOpaque m0 sh rr r x ww so sc pl qo pn bm tg px fa hb _ hr  (fon_ne hE hF)) rfl (Nat.le_of_ble_eq_true rfl) (by decide) (by decide) (by decide) (by decide) (fun _ _ _ hf => False.elim hf) (fun r121 h121 n121 hp121 => ?_)
    obtain ⟨z121, s121, e121, rfl, rfl, rfl⟩ := hp121
    replace hE := fon_ok e121 hE
    refine aw_if_eq (tgt := 139) dX10_fits_124 (by decide) (fun c124 => ?_) (fun c124 => ?_)
    · replace hE := fit hE c124
      exact aw_lv _ (fun _ h => absurd h List.not_mem_nil) (b_X10_fits_139 m0 sh rr r x ww so sc qo pn bm tg px fa hb n hr  pl _ hE hF)
    · replace hE := fif hE c124
      refine aw_aload_n dX10_fits_127 rfl ?_
      refine aw_aload_n dX10_fits_128 rfl ?_
      refine aw_callV dX10_fits_129 at_mint cvX10_225 rfl (kF_X10_hasFewColours m0 sh rr r x ww so sc pl qo pn bm tg px fa hb _ hr  (fon_ne hE hF)) rfl (Nat.le_of_ble_eq_true rfl) (by decide) (by decide) (by decide) (by decide) (fun _ _ _ hf => False.elim hf) (fun r129 h129 n129 hp129 => ?_)
      obtain ⟨z129, s129, e129, rfl, rfl, rfl⟩ := hp129
      replace hE := fon_ok e129 hE
      refine aw_if_eq (tgt := 139) dX10_fits_132 (by decide) (fun c132 => ?_) (fun c132 => ?_)
      · replace hE := fit hE c132
        exact aw_lv _ (fun _ h => absurd h List.not_mem_nil) (b_X10_fits_139 m0 sh rr r x ww so sc qo pn bm tg px fa hb n hr  s129 _ hE hF)
      · replace hE := fif hE c132
        refine aw_iconst (v := 1) dX10_fits_135 (by decide) ?_
        refine aw_goto (tgt := 140) dX10_fits_136 (by decide) ?_
        exact aw_zret dX10_fits_140 rfl (narB (by decide)) (Nat.zero_le _) (Nat.zero_le _) (Nat.zero_le _) (Nat.zero_le _) ⟨_, _, hE.symm, rfl, rfl, rfl⟩
  replace hE := fif hE e1_8
  by_cases e1_9 : a2 = 9
  · replace hE := fit hE e1_9
    refine aw_tableIn (tgt := 120) dX10_fits_1 (by rw [e1_9]; decide) (by rw [e1_9]; decide) (off := 119) (by rw [e1_9]; decide) (by decide) ?_
    refine aw_aload_n dX10_fits_120 rfl ?_
    refine aw_callV dX10_fits_121 (at_ras hr) cvX10_171 rfl (kF_X7_isOpaque m0 sh rr r x ww so sc pl qo pn bm tg px fa hb _ hr  (fon_ne hE hF)) rfl (Nat.le_of_ble_eq_true rfl) (by decide) (by decide) (by decide) (by decide) (fun _ _ _ hf => False.elim hf) (fun r121 h121 n121 hp121 => ?_)
    obtain ⟨z121, s121, e121, rfl, rfl, rfl⟩ := hp121
    replace hE := fon_ok e121 hE
    refine aw_if_eq (tgt := 139) dX10_fits_124 (by decide) (fun c124 => ?_) (fun c124 => ?_)
    · replace hE := fit hE c124
      exact aw_lv _ (fun _ h => absurd h List.not_mem_nil) (b_X10_fits_139 m0 sh rr r x ww so sc qo pn bm tg px fa hb n hr  pl _ hE hF)
    · replace hE := fif hE c124
      refine aw_aload_n dX10_fits_127 rfl ?_
      refine aw_aload_n dX10_fits_128 rfl ?_
      refine aw_callV dX10_fits_129 at_mint cvX10_225 rfl (kF_X10_hasFewColours m0 sh rr r x ww so sc pl qo pn bm tg px fa hb _ hr  (fon_ne hE hF)) rfl (Nat.le_of_ble_eq_true rfl) (by decide) (by decide) (by decide) (by decide) (fun _ _ _ hf => False.elim hf) (fun r129 h129 n129 hp129 => ?_)
      obtain ⟨z129, s129, e129, rfl, rfl, rfl⟩ := hp129
      replace hE := fon_ok e129 hE
      refine aw_if_eq (tgt := 139) dX10_fits_132 (by decide) (fun c132 => ?_) (fun c132 => ?_)
      · replace hE := fit hE c132
        exact aw_lv _ (fun _ h => absurd h List.not_mem_nil) (b_X10_fits_139 m0 sh rr r x ww so sc qo pn bm tg px fa hb n hr  s129 _ hE hF)
      · replace hE := fif hE c132
        refine aw_iconst (v := 1) dX10_fits_135 (by decide) ?_
        refine aw_goto (tgt := 140) dX10_fits_136 (by decide) ?_
        exact aw_zret dX10_fits_140 rfl (narB (by decide)) (Nat.zero_le _) (Nat.zero_le _) (Nat.zero_le _) (Nat.zero_le _) ⟨_, _, hE.symm, rfl, rfl, rfl⟩
  replace hE := fif hE e1_9
  by_cases e1_10 : a2 = 10
  · replace hE := fit hE e1_10
    refine aw_tableIn (tgt := 88) dX10_fits_1 (by rw [e1_10]; decide) (by rw [e1_10]; decide) (off := 87) (by rw [e1_10]; decide) (by decide) ?_
    refine aw_iconst (v := 1) dX10_fits_88 (by decide) ?_
    exact aw_zret dX10_fits_89 rfl (narB (by decide)) (Nat.zero_le _) (Nat.zero_le _) (Nat.zero_le _) (Nat.zero_le _) ⟨_, _, hE.symm, rfl, rfl, rfl⟩
  replace hE := fif hE e1_10
  by_cases e1_11 : a2 = 11
  · replace hE := fit hE e1_11
    refine aw_tableIn (tgt := 88) dX10_fits_1 (by rw [e1_11]; decide) (by rw [e1_11]; decide) (off := 87) (by rw [e1_11]; decide) (by decide) ?_
    refine aw_iconst (v := 1) dX10_fits_88 (by decide) ?_
    exact aw_zret dX10_fits_89 rfl (narB (by decide)) (Nat.zero_le _) (Nat.zero_le _) (Nat.zero_le _) (Nat.zero_le _) ⟨_, _, hE.symm, rfl, rfl, rfl⟩
  replace hE := fif hE e1_11
  by_cases e1_12 : a2 = 12
  · replace hE := fit hE e1_12
    refine aw_tableIn (tgt := 95) dX10_fits_1 (by rw [e1_12]; decide) (by rw [e1_12]; decide) (off := 94) (by rw [e1_12]; decide) (by decide) ?_
    refine aw_aload_n dX10_fits_95 rfl ?_
    refine aw_callV dX10_fits_96 (at_ras hr) cvX10_171 rfl (kF_X7_isOpaque m0 sh rr r x ww so sc pl qo pn bm tg px fa hb _ hr  (fon_ne hE hF)) rfl (Nat.le_of_ble_eq_true rfl) (by decide) (by decide) (by decide) (by decide) (fun _ _ _ hf => False.elim hf) (fun r96 h96 n96 hp96 => ?_)
    obtain ⟨z96, s96, e96, rfl, rfl, rfl⟩ := hp96
    replace hE := fon_ok e96 hE
    refine aw_if_eq (tgt := 113) dX10_fits_99 (by decide) (fun c99 => ?_) (fun c99 => ?_)
    · replace hE := fit hE c99
      exact aw_lv _ (fun _ h => absurd h List.not_mem_nil) (b_X10_fits_113 m0 sh rr r x ww so sc qo pn bm tg px fa hb n hr  pl _ hE hF)
    · replace hE := fif hE c99
      refine aw_aload_n dX10_fits_102 rfl ?_
      refine aw_callV dX10_fits_103 (at_ras hr) cvX10_175 rfl (kF_X7_isGray m0 sh rr r x ww so sc pl qo pn bm tg px fa hb _ hr  (fon_ne hE hF)) rfl (Nat.le_of_ble_eq_true rfl) (by decide) (by decide) (by decide) (by decide) (fun _ _ _ hf => False.elim hf) (fun r103 h103 n103 hp103 => ?_)
      obtain ⟨z103, s103, e103, rfl, rfl, rfl⟩ := hp103
      replace hE := fon_ok e103 hE
      refine aw_if_eq (tgt := 113) dX10_fits_106 (by decide) (fun c106 => ?_) (fun c106 => ?_)
      · replace hE := fit hE c106
        exact aw_lv _ (fun _ h => absurd h List.not_mem_nil) (b_X10_fits_113 m0 sh rr r x ww so sc qo pn bm tg px fa hb n hr  pl _ hE hF)
      · replace hE := fif hE c106
        refine aw_iconst (v := 1) dX10_fits_109 (by decide) ?_
        refine aw_goto (tgt := 114) dX10_fits_110 (by decide) ?_
        exact aw_zret dX10_fits_114 rfl (narB (by decide)) (Nat.zero_le _) (Nat.zero_le _) (Nat.zero_le _) (Nat.zero_le _) ⟨_, _, hE.symm, rfl, rfl, rfl⟩
  replace hE := fif hE e1_12
  by_cases e1_13 : a2 = 13
  · replace hE := fit hE e1_13
    refine aw_tableIn (tgt := 95) dX10_fits_1 (by rw [e1_13]; decide) (by rw [e1_13]; decide) (off := 94) (by rw [e1_13]; decide) (by decide) ?_
    refine aw_aload_n dX10_fits_95 rfl ?_
    refine aw_callV dX10_fits_96 (at_ras hr) cvX10_171 rfl (kF_X7_isOpaque m0 sh rr r x ww so sc pl qo pn bm tg px fa hb _ hr  (fon_ne hE hF)) rfl (Nat.le_of_ble_eq_true rfl) (by decide) (by decide) (by decide) (by decide) (fun _ _ _ hf => False.elim hf) (fun r96 h96 n96 hp96 => ?_)
    obtain ⟨z96, s96, e96, rfl, rfl, rfl⟩ := hp96
    replace hE := fon_ok e96 hE
    refine aw_if_eq (tgt := 113) dX10_fits_99 (by decide) (fun c99 => ?_) (fun c99 => ?_)
    · replace hE := fit hE c99
      exact aw_lv _ (fun _ h => absurd h List.not_mem_nil) (b_X10_fits_113 m0 sh rr r x ww so sc qo pn bm tg px fa hb n hr  pl _ hE hF)
    · replace hE := fif hE c99
      refine aw_aload_n dX10_fits_102 rfl ?_
      refine aw_callV dX10_fits_103 (at_ras hr) cvX10_175 rfl (kF_X7_isGray m0 sh rr r x ww so sc pl qo pn bm tg px fa hb _ hr  (fon_ne hE hF)) rfl (Nat.le_of_ble_eq_true rfl) (by decide) (by decide) (by decide) (by decide) (fun _ _ _ hf => False.elim hf) (fun r103 h103 n103 hp103 => ?_)
      obtain ⟨z103, s103, e103, rfl, rfl, rfl⟩ := hp103
      replace hE := fon_ok e103 hE
      refine aw_if_eq (tgt := 113) dX10_fits_106 (by decide) (fun c106 => ?_) (fun c106 => ?_)
      · replace hE := fit hE c106
        exact aw_lv _ (fun _ h => absurd h List.not_mem_nil) (b_X10_fits_113 m0 sh rr r x ww so sc qo pn bm tg px fa hb n hr  pl _ hE hF)
      · replace hE := fif hE c106
        refine aw_iconst (v := 1) dX10_fits_109 (by decide) ?_
        refine aw_goto (tgt := 114) dX10_fits_110 (by decide) ?_
        exact aw_zret dX10_fits_114 rfl (narB (by decide)) (Nat.zero_le _) (Nat.zero_le _) (Nat.zero_le _) (Nat.zero_le _) ⟨_, _, hE.symm, rfl, rfl, rfl⟩
  replace hE := fif hE e1_13
  by_cases e1_14 : a2 = 14
  · replace hE := fit hE e1_14
    refine aw_tableIn (tgt := 141) dX10_fits_1 (by rw [e1_14]; decide) (by rw [e1_14]; decide) (off := 140) (by rw [e1_14]; decide) (by decide) ?_
    refine aw_aload_n dX10_fits_141 rfl ?_
    refine aw_aload_n dX10_fits_142 rfl ?_
    refine aw_callV dX10_fits_143 at_mint cvX10_225 rfl (kF_X10_hasFewColours m0 sh rr r x ww so sc pl qo pn bm tg px fa hb _ hr  (fon_ne hE hF)) rfl (Nat.le_of_ble_eq_true rfl) (by decide) (by decide) (by decide) (by decide) (fun _ _ _ hf => False.elim hf) (fun r143 h143 n143 hp143 => ?_)
    obtain ⟨z143, s143, e143, rfl, rfl, rfl⟩ := hp143
    replace hE := fon_ok e143 hE
    obtain ⟨g146, hE⟩ := fgd hE hF
    exact aw_zret dX10_fits_146 rfl (narB g146) (Nat.zero_le _) (Nat.zero_le _) (Nat.zero_le _) (Nat.zero_le _) ⟨_, _, hE.symm, rfl, rfl, rfl⟩
  replace hE := fif hE e1_14
  by_cases e1_15 : a2 = 15
  · replace hE := fit hE e1_15
    refine aw_tableIn (tgt := 141) dX10_fits_1 (by rw [e1_15]; decide) (by rw [e1_15]; decide) (off := 140) (by rw [e1_15]; decide) (by decide) ?_
    refine aw_aload_n dX10_fits_141 rfl ?_
    refine aw_aload_n dX10_fits_142 rfl ?_
    refine aw_callV dX10_fits_143 at_mint cvX10_225 rfl (kF_X10_hasFewColours m0 sh rr r x ww so sc pl qo pn bm tg px fa hb _ hr  (fon_ne hE hF)) rfl (Nat.le_of_ble_eq_true rfl) (by decide) (by decide) (by decide) (by decide) (fun _ _ _ hf => False.elim hf) (fun r143 h143 n143 hp143 => ?_)
    obtain ⟨z143, s143, e143, rfl, rfl, rfl⟩ := hp143
    replace hE := fon_ok e143 hE
    obtain ⟨g146, hE⟩ := fgd hE hF
    exact aw_zret dX10_fits_146 rfl (narB g146) (Nat.zero_le _) (Nat.zero_le _) (Nat.zero_le _) (Nat.zero_le _) ⟨_, _, hE.symm, rfl, rfl, rfl⟩
  replace hE := fif hE e1_15
  by_cases e1_16 : a2 = 16
  · replace hE := fit hE e1_16
    refine aw_tableIn (tgt := 115) dX10_fits_1 (by rw [e1_16]; decide) (by rw [e1_16]; decide) (off := 114) (by rw [e1_16]; decide) (by decide) ?_
    refine aw_aload_n dX10_fits_115 rfl ?_
    refine aw_callV dX10_fits_116 (at_ras hr) cvX10_171 rfl (kF_X7_isOpaque m0 sh rr r x ww so sc pl qo pn bm tg px fa hb _ hr  (fon_ne hE hF)) rfl (Nat.le_of_ble_eq_true rfl) (by decide) (by decide) (by decide) (by decide) (fun _ _ _ hf => False.elim hf) (fun r116 h116 n116 hp116 => ?_)
    obtain ⟨z116, s116, e116, rfl, rfl, rfl⟩ := hp116
    replace hE := fon_ok e116 hE
    obtain ⟨g119, hE⟩ := fgd hE hF
    exact aw_zret dX10_fits_119 rfl (narB g119) (Nat.zero_le _) (Nat.zero_le _) (Nat.zero_le _) (Nat.zero_le _) ⟨_, _, hE.symm, rfl, rfl, rfl⟩
  replace hE := fif hE e1_16
  by_cases e1_17 : a2 = 17
  · replace hE := fit hE e1_17
    refine aw_tableIn (tgt := 120) dX10_fits_1 (by rw [e1_17]; decide) (by rw [e1_17]; decide) (off := 119) (by rw [e1_17]; decide) (by decide) ?_
    refine aw_aload_n dX10_fits_120 rfl ?_
    refine aw_callV dX10_fits_121 (at_ras hr) cvX10_171 rfl (kF_X7_isOpaque m0 sh rr r x ww so sc pl qo pn bm tg px fa hb _ hr  (fon_ne hE hF)) rfl (Nat.le_of_ble_eq_true rfl) (by decide) (by decide) (by decide) (by decide) (fun _ _ _ hf => False.elim hf) (fun r121 h121 n121 hp121 => ?_)
    obtain ⟨z121, s121, e121, rfl, rfl, rfl⟩ := hp121
    replace hE := fon_ok e121 hE
    refine aw_if_eq (tgt := 139) dX10_fits_124 (by decide) (fun c124 => ?_) (fun c124 => ?_)
    · replace hE := fit hE c124
      exact aw_lv _ (fun _ h => absurd h List.not_mem_nil) (b_X10_fits_139 m0 sh rr r x ww so sc qo pn bm tg px fa hb n hr  pl _ hE hF)
    · replace hE := fif hE c124
      refine aw_aload_n dX10_fits_127 rfl ?_
      refine aw_aload_n dX10_fits_128 rfl ?_
      refine aw_callV dX10_fits_129 at_mint cvX10_225 rfl (kF_X10_hasFewColours m0 sh rr r x ww so sc pl qo pn bm tg px fa hb _ hr  (fon_ne hE hF)) rfl (Nat.le_of_ble_eq_true rfl) (by decide) (by decide) (by decide) (by decide) (fun _ _ _ hf => False.elim hf) (fun r129 h129 n129 hp129 => ?_)
      obtain ⟨z129, s129, e129, rfl, rfl, rfl⟩ := hp129
      replace hE := fon_ok e129 hE
      refine aw_if_eq (tgt := 139) dX10_fits_132 (by decide) (fun c132 => ?_) (fun c132 => ?_)
      · replace hE := fit hE c132
        exact aw_lv _ (fun _ h => absurd h List.not_mem_nil) (b_X10_fits_139 m0 sh rr r x ww so sc qo pn bm tg px fa hb n hr  s129 _ hE hF)
      · replace hE := fif hE c132
        refine aw_iconst (v := 1) dX10_fits_135 (by decide) ?_
        refine aw_goto (tgt := 140) dX10_fits_136 (by decide) ?_
        exact aw_zret dX10_fits_140 rfl (narB (by decide)) (Nat.zero_le _) (Nat.zero_le _) (Nat.zero_le _) (Nat.zero_le _) ⟨_, _, hE.symm, rfl, rfl, rfl⟩
  replace hE := fif hE e1_17
  have q1_0 : ¬ Int32.toInt a2 = 0 := fun q => e1_0 (Int32.toInt_inj.mp (q.trans (by decide)))
  have q1_1 : ¬ Int32.toInt a2 = 1 := fun q => e1_1 (Int32.toInt_inj.mp (q.trans (by decide)))
  have q1_2 : ¬ Int32.toInt a2 = 2 := fun q => e1_2 (Int32.toInt_inj.mp (q.trans (by decide)))
  have q1_3 : ¬ Int32.toInt a2 = 3 := fun q => e1_3 (Int32.toInt_inj.mp (q.trans (by decide)))
  have q1_4 : ¬ Int32.toInt a2 = 4 := fun q => e1_4 (Int32.toInt_inj.mp (q.trans (by decide)))
  have q1_5 : ¬ Int32.toInt a2 = 5 := fun q => e1_5 (Int32.toInt_inj.mp (q.trans (by decide)))
  have q1_6 : ¬ Int32.toInt a2 = 6 := fun q => e1_6 (Int32.toInt_inj.mp (q.trans (by decide)))
  have q1_7 : ¬ Int32.toInt a2 = 7 := fun q => e1_7 (Int32.toInt_inj.mp (q.trans (by decide)))
  have q1_8 : ¬ Int32.toInt a2 = 8 := fun q => e1_8 (Int32.toInt_inj.mp (q.trans (by decide)))
  have q1_9 : ¬ Int32.toInt a2 = 9 := fun q => e1_9 (Int32.toInt_inj.mp (q.trans (by decide)))
  have q1_10 : ¬ Int32.toInt a2 = 10 := fun q => e1_10 (Int32.toInt_inj.mp (q.trans (by decide)))
  have q1_11 : ¬ Int32.toInt a2 = 11 := fun q => e1_11 (Int32.toInt_inj.mp (q.trans (by decide)))
  have q1_12 : ¬ Int32.toInt a2 = 12 := fun q => e1_12 (Int32.toInt_inj.mp (q.trans (by decide)))
  have q1_13 : ¬ Int32.toInt a2 = 13 := fun q => e1_13 (Int32.toInt_inj.mp (q.trans (by decide)))
  have q1_14 : ¬ Int32.toInt a2 = 14 := fun q => e1_14 (Int32.toInt_inj.mp (q.trans (by decide)))
  have q1_15 : ¬ Int32.toInt a2 = 15 := fun q => e1_15 (Int32.toInt_inj.mp (q.trans (by decide)))
  have q1_16 : ¬ Int32.toInt a2 = 16 := fun q => e1_16 (Int32.toInt_inj.mp (q.trans (by decide)))
  have q1_17 : ¬ Int32.toInt a2 = 17 := fun q => e1_17 (Int32.toInt_inj.mp (q.trans (by decide)))
  refine aw_tableOut (tgt := 147) dX10_fits_1 (by omega) (by decide) ?_
  refine aw_iconst (v := 0) dX10_fits_147 (by decide) ?_
  exact aw_zret dX10_fits_148 rfl (narB (by decide)) (Nat.zero_le _) (Nat.zero_le _) (Nat.zero_le _) (Nat.zero_le _) ⟨_, _, hE.symm, rfl, rfl, rfl⟩
def P_X0_encode (m0 : Mnt) (sh : Nat → Nat) (rr : Nat → Ras) (r : Nat) (x : Ras) (ww : Nat → Row) (o : Nat) (so : Nat) (sc : Src) (qo : Qoi) (pn : Pnm) (bm : Bmp) (tg : Tga) (px : Pcx) (fa : A) (hb : aH) (n : Nat) (res : Out (Row × Pal) Unit) : Option Value → aH → Nat → Prop := fun r1 h2 n2 => ∃ (a : Unit) (s : (Row × Pal)), res = fok a s ∧ r1 = none ∧ h2 = HC m0 sh (va_up rr r x) (va_up ww o s.1) so sc s.2 qo pn bm tg px fa hb ∧ n = n2
abbrev Q_X0_encode_11 (m0 : Mnt) (sh : Nat → Nat) (rr : Nat → Ras) (r : Nat) (x : Ras) (ww : Nat → Row) (o : Nat) (so : Nat) (sc : Src) (qo : Qoi) (pn : Pnm) (bm : Bmp) (tg : Tga) (px : Pcx) (fa : A) (hb : aH) (n : Nat) (k : Int32 → Int32 → Row → Pal → Out (Row × Pal) Unit) : Prop := ∀ (v2 : Int32) (t0 : Int32) (y : Row) (pl : Pal) (res : Out (Row × Pal) Unit), k v2 t0 y pl = res → res ≠ fno → AW (fun _ _ => True) mX0_encode (rmD 5 0 0) 0 0 (P_X0_encode m0 sh rr r x ww o so sc qo pn bm tg px fa hb n res) (fun _ _ _ => False) 0 0 11 [(0, .ref 24), (1, .ref r), (2, .int v2), (3, .ref o)] [.int t0] (HC m0 sh (va_up rr r x) (va_up ww o y) so sc pl qo pn bm tg px fa hb) n
abbrev Q_X0_encode_38 (m0 : Mnt) (sh : Nat → Nat) (rr : Nat → Ras) (r : Nat) (x : Ras) (ww : Nat → Row) (o : Nat) (so : Nat) (sc : Src) (qo : Qoi) (pn : Pnm) (bm : Bmp) (tg : Tga) (px : Pcx) (fa : A) (hb : aH) (n : Nat) (k : Int32 → Int32 → Int32 → Row → Pal → Out (Row × Pal) Unit) : Prop := ∀ (v2 : Int32) (v4 : Int32) (v5 : Int32) (y : Row) (pl : Pal) (res : Out (Row × Pal) Unit), k v2 v4 v5 y pl = res → res ≠ fno → AW (fun _ _ => True) mX0_encode (rmD 5 0 0) 0 0 (P_X0_encode m0 sh rr r x ww o so sc qo pn bm tg px fa hb n res) (fun _ _ _ => False) 0 0 38 [(0, .ref 24), (1, .ref r), (2, .int v2), (3, .ref o), (4, .int v4), (5, .int v5)] [] (HC m0 sh (va_up rr r x) (va_up ww o y) so sc pl qo pn bm tg px fa hb) n
abbrev Q_X0_encode_49 (m0 : Mnt) (sh : Nat → Nat) (rr : Nat → Ras) (r : Nat) (x : Ras) (ww : Nat → Row) (o : Nat) (so : Nat) (sc : Src) (qo : Qoi) (pn : Pnm) (bm : Bmp) (tg : Tga) (px : Pcx) (fa : A) (hb : aH) (n : Nat) (k : Int32 → Int32 → Int32 → Int32 → Row → Pal → Out (Row × Pal) Unit) : Prop := ∀ (v2 : Int32) (v4 : Int32) (v5 : Int32) (v6 : Int32) (y : Row) (pl : Pal) (res : Out (Row × Pal) Unit), k v2 v4 v5 v6 y pl = res → res ≠ fno → AW (fun _ _ => True) mX0_encode (rmD 5 0 0) 0 0 (P_X0_encode m0 sh rr r x ww o so sc qo pn bm tg px fa hb n res) (fun _ _ _ => False) 0 0 49 [(0, .ref 24), (1, .ref r), (2, .int v2), (3, .ref o), (4, .int v4), (5, .int v5), (6, .int v6)] [] (HC m0 sh (va_up rr r x) (va_up ww o y) so sc pl qo pn bm tg px fa hb) n
abbrev Q_X0_encode_88 (m0 : Mnt) (sh : Nat → Nat) (rr : Nat → Ras) (r : Nat) (x : Ras) (ww : Nat → Row) (o : Nat) (so : Nat) (sc : Src) (qo : Qoi) (pn : Pnm) (bm : Bmp) (tg : Tga) (px : Pcx) (fa : A) (hb : aH) (n : Nat) (k : Int32 → Int32 → Int32 → Int32 → Row → Pal → Out (Row × Pal) Unit) : Prop := ∀ (v2 : Int32) (v4 : Int32) (v5 : Int32) (v6 : Int32) (y : Row) (pl : Pal) (res : Out (Row × Pal) Unit), k v2 v4 v5 v6 y pl = res → res ≠ fno → AW (fun _ _ => True) mX0_encode (rmD 5 0 0) 0 0 (P_X0_encode m0 sh rr r x ww o so sc qo pn bm tg px fa hb n res) (fun _ _ _ => False) 0 0 88 [(0, .ref 24), (1, .ref r), (2, .int v2), (3, .ref o), (4, .int v4), (5, .int v5), (6, .int v6)] [] (HC m0 sh (va_up rr r x) (va_up ww o y) so sc pl qo pn bm tg px fa hb) n
abbrev Q_X0_encode_120 (m0 : Mnt) (sh : Nat → Nat) (rr : Nat → Ras) (r : Nat) (x : Ras) (ww : Nat → Row) (o : Nat) (so : Nat) (sc : Src) (qo : Qoi) (pn : Pnm) (bm : Bmp) (tg : Tga) (px : Pcx) (fa : A) (hb : aH) (n : Nat) (k : Int32 → Int32 → Int32 → Int32 → Row → Pal → Out (Row × Pal) Unit) : Prop := ∀ (v2 : Int32) (v4 : Int32) (v5 : Int32) (v6 : Int32) (y : Row) (pl : Pal) (res : Out (Row × Pal) Unit), k v2 v4 v5 v6 y pl = res → res ≠ fno → AW (fun _ _ => True) mX0_encode (rmD 5 0 0) 0 0 (P_X0_encode m0 sh rr r x ww o so sc qo pn bm tg px fa hb n res) (fun _ _ _ => False) 0 0 120 [(0, .ref 24), (1, .ref r), (2, .int v2), (3, .ref o), (4, .int v4), (5, .int v5), (6, .int v6)] [] (HC m0 sh (va_up rr r x) (va_up ww o y) so sc pl qo pn bm tg px fa hb) n
def F_X0_encode_120 (x : Ras) (k88 : Int32 → Int32 → Int32 → Int32 → Row → Pal → Out (Row × Pal) Unit) (v2 : Int32) (v4 : Int32) (v5 : Int32) (v6 : Int32) (y : Row) (pl : Pal) : Out (Row × Pal) Unit := k88 v2 v4 v5 (v6 + (-1)) y pl
set_option maxHeartbeats 1000000 in
set_option maxRecDepth 100000 in
theorem b_X0_encode_120 (m0 : Mnt) (sh : Nat → Nat) (rr : Nat → Ras) (r : Nat) (x : Ras) (ww : Nat → Row) (o : Nat) (so : Nat) (sc : Src) (qo : Qoi) (pn : Pnm) (bm : Bmp) (tg : Tga) (px : Pcx) (fa : A) (hb : aH) (n : Nat) (hr : isR r) (ho : isW o) (k88 : Int32 → Int32 → Int32 → Int32 → Row → Pal → Out (Row × Pal) Unit) (hk88 : Q_X0_encode_88 m0 sh rr r x ww o so sc qo pn bm tg px fa hb n k88) : Q_X0_encode_120 m0 sh rr r x ww o so sc qo pn bm tg px fa hb n (F_X0_encode_120 x k88) := by
  intro v2 v4 v5 v6 y pl res hE hF
  unfold F_X0_encode_120 at hE
  refine aw_iinc (v := (v6 + (-1))) (lv2 := [(6, _), (0, _), (1, _), (2, _), (3, _), (4, _), (5, _)]) dX0_encode_120 rfl (incE (by decide)) (by decide) rfl ?_
  refine aw_goto (tgt := 88) dX0_encode_123 (by decide) ?_
  exact aw_lv _ (List.forall_mem_cons.mpr ⟨rfl, (List.forall_mem_cons.mpr ⟨rfl, (List.forall_mem_cons.mpr ⟨rfl, (List.forall_mem_cons.mpr ⟨rfl, (List.forall_mem_cons.mpr ⟨rfl, (List.forall_mem_cons.mpr ⟨rfl, (List.forall_mem_cons.mpr ⟨rfl, fun _ h => absurd h List.not_mem_nil⟩)⟩)⟩)⟩)⟩)⟩)⟩) (hk88 v2 v4 v5 (v6 + (-1)) y pl _ hE hF)
def F_X0_encode_88 (x : Ras) (k88 : Int32 → Int32 → Int32 → Int32 → Row → Pal → Out (Row × Pal) Unit) (v2 : Int32) (v4 : Int32) (v5 : Int32) (v6 : Int32) (y : Row) (pl : Pal) : Out (Row × Pal) Unit := if v6 < 0 then (fon (F_X1_setLow4 2 (y_n y) y) (fun z132 s132 => fon (F_X1_setLow4 34 (((y_n s132) - 54) - (4 * v5)) s132) (fun z150 s150 => fok () (s150, pl)) (fun _ _ => fno)) (fun _ _ => fno)) else (if v2 = 9 then (fon (F_X0_writeRuns v6 x y pl) (fun z104 s104 => F_X0_encode_120 x k88 v2 v4 v5 v6 s104 pl) (fun _ _ => fno)) else (fon (F_X0_writeRow v6 v4 x y pl) (fun z117 s117 => F_X0_encode_120 x k88 v2 v4 v5 v6 s117 pl) (fun _ _ => fno)))
set_option maxHeartbeats 1000000 in
set_option maxRecDepth 100000 in
theorem b_X0_encode_88 (m0 : Mnt) (sh : Nat → Nat) (rr : Nat → Ras) (r : Nat) (x : Ras) (ww : Nat → Row) (o : Nat) (so : Nat) (sc : Src) (qo : Qoi) (pn : Pnm) (bm : Bmp) (tg : Tga) (px : Pcx) (fa : A) (hb : aH) (n : Nat) (hr : isR r) (ho : isW o) (k88 : Int32 → Int32 → Int32 → Int32 → Row → Pal → Out (Row × Pal) Unit) (hk88 : Q_X0_encode_88 m0 sh rr r x ww o so sc qo pn bm tg px fa hb n k88) : Q_X0_encode_88 m0 sh rr r x ww o so sc qo pn bm tg px fa hb n (F_X0_encode_88 x k88) := by
  intro v2 v4 v5 v6 y pl res hE hF
  unfold F_X0_encode_88 at hE
  refine aw_iload dX0_encode_88 rfl ?_
  refine aw_if_lt (tgt := 126) dX0_encode_90 (by decide) (fun c90 => ?_) (fun c90 => ?_)
  · replace hE := fit hE c90
    refine aw_aload_n dX0_encode_126 rfl ?_
    refine aw_iconst (v := 2) dX0_encode_127 (by decide) ?_
    refine aw_aload_n dX0_encode_128 rfl ?_
    refine aw_getf (v := .int (y_n y)) dX0_encode_129 flX0_211_1 (at_row ho) rfl ?_
    refine aw_callV dX0_encode_132 (at_row ho) cvX0_212 rfl (kF_X1_setLow4 m0 sh (va_up rr r x) ww o y so sc pl qo pn bm tg px fa hb _ ho 2 (y_n y) (fon_ne hE hF)) rfl (Nat.le_of_ble_eq_true rfl) (by decide) (by decide) (by decide) (by decide) (fun _ _ _ hf => False.elim hf) (fun r132 h132 n132 hp132 => ?_)
    obtain ⟨z132, s132, e132, rfl, rfl, rfl⟩ := hp132
    replace hE := fon_ok e132 hE
    refine aw_aload_n dX0_encode_135 rfl ?_
    refine aw_bipush (v := 34) dX0_encode_136 (by decide) ?_
    refine aw_aload_n dX0_encode_138 rfl ?_
    refine aw_getf (v := .int (y_n s132)) dX0_encode_139 flX0_211_1 (at_row ho) rfl ?_
    refine aw_bipush (v := 54) dX0_encode_142 (by decide) ?_
    refine aw_isub dX0_encode_144 ?_
    refine aw_iconst (v := 4) dX0_encode_145 (by decide) ?_
    refine aw_iload dX0_encode_146 rfl ?_
    refine aw_imul dX0_encode_148 ?_
    refine aw_isub dX0_encode_149 ?_
    refine aw_callV dX0_encode_150 (at_row ho) cvX0_212 rfl (kF_X1_setLow4 m0 sh (va_up rr r x) ww o s132 so sc pl qo pn bm tg px fa hb _ ho 34 (((y_n s132) - 54) - (4 * v5)) (fon_ne hE hF)) rfl (Nat.le_of_ble_eq_true rfl) (by decide) (by decide) (by decide) (by decide) (fun _ _ _ hf => False.elim hf) (fun r150 h150 n150 hp150 => ?_)
    obtain ⟨z150, s150, e150, rfl, rfl, rfl⟩ := hp150
    replace hE := fon_ok e150 hE
    exact aw_vret dX0_encode_153 rfl (Nat.zero_le _) (Nat.zero_le _) (Nat.zero_le _) (Nat.zero_le _) ⟨_, _, hE.symm, rfl, rfl, rfl⟩
  · replace hE := fif hE c90
    refine aw_iload_n dX0_encode_93 rfl ?_
    refine aw_bipush (v := 9) dX0_encode_94 (by decide) ?_
    refine aw_icmp_ne (tgt := 110) dX0_encode_96 (by decide) (fun c96 => ?_) (fun c96 => ?_)
    · replace hE := fif hE c96
      refine aw_aload_n dX0_encode_110 rfl ?_
      refine aw_aload_n dX0_encode_111 rfl ?_
      refine aw_iload dX0_encode_112 rfl ?_
      refine aw_iload dX0_encode_114 rfl ?_
      refine aw_aload_n dX0_encode_116 rfl ?_
      refine aw_callV dX0_encode_117 at_bmp cvX0_207 rfl (kF_X0_writeRow m0 sh rr r x ww o y so sc pl qo pn bm tg px fa hb _ hr ho v6 v4 (fon_ne hE hF)) rfl (Nat.le_of_ble_eq_true rfl) (by decide) (by decide) (by decide) (by decide) (fun _ _ _ hf => False.elim hf) (fun r117 h117 n117 hp117 => ?_)
      obtain ⟨z117, s117, e117, rfl, rfl, rfl⟩ := hp117
      replace hE := fon_ok e117 hE
      exact aw_lv _ (List.forall_mem_cons.mpr ⟨rfl, (List.forall_mem_cons.mpr ⟨rfl, (List.forall_mem_cons.mpr ⟨rfl, (List.forall_mem_cons.mpr ⟨rfl, (List.forall_mem_cons.mpr ⟨rfl, (List.forall_mem_cons.mpr ⟨rfl, (List.forall_mem_cons.mpr ⟨rfl, fun _ h => absurd h List.not_mem_nil⟩)⟩)⟩)⟩)⟩)⟩)⟩) (b_X0_encode_120 m0 sh rr r x ww o so sc qo pn bm tg px fa hb n hr ho k88 hk88 v2 v4 v5 v6 s117 pl _ hE hF)
    · replace hE := fit hE c96
      refine aw_aload_n dX0_encode_99 rfl ?_
      refine aw_aload_n dX0_encode_100 rfl ?_
      refine aw_iload dX0_encode_101 rfl ?_
      refine aw_aload_n dX0_encode_103 rfl ?_
      refine aw_callV dX0_encode_104 at_bmp cvX0_203 rfl (kF_X0_writeRuns m0 sh rr r x ww o y so sc pl qo pn bm tg px fa hb _ hr ho v6 (fon_ne hE hF)) rfl (Nat.le_of_ble_eq_true rfl) (by decide) (by decide) (by decide) (by decide) (fun _ _ _ hf => False.elim hf) (fun r104 h104 n104 hp104 => ?_)
      obtain ⟨z104, s104, e104, rfl, rfl, rfl⟩ := hp104
      replace hE := fon_ok e104 hE
      refine aw_goto (tgt := 120) dX0_encode_107 (by decide) ?_
      exact aw_lv _ (List.forall_mem_cons.mpr ⟨rfl, (List.forall_mem_cons.mpr ⟨rfl, (List.forall_mem_cons.mpr ⟨rfl, (List.forall_mem_cons.mpr ⟨rfl, (List.forall_mem_cons.mpr ⟨rfl, (List.forall_mem_cons.mpr ⟨rfl, (List.forall_mem_cons.mpr ⟨rfl, fun _ h => absurd h List.not_mem_nil⟩)⟩)⟩)⟩)⟩)⟩)⟩) (b_X0_encode_120 m0 sh rr r x ww o so sc qo pn bm tg px fa hb n hr ho k88 hk88 v2 v4 v5 v6 s104 pl _ hE hF)
def F_X0_encode_49 (x : Ras) (k49 : Int32 → Int32 → Int32 → Int32 → Row → Pal → Out (Row × Pal) Unit) (v2 : Int32) (v4 : Int32) (v5 : Int32) (v6 : Int32) (y : Row) (pl : Pal) : Out (Row × Pal) Unit := if v5 ≤ v6 then (lp (fun _ _ _ _ _ _ => fno) (F_X0_encode_88 x) FU v2 v4 v5 ((x_g x) - 1) y pl) else (fon (F_X3_get v6 pl) (fun z62 s62 => fon (F_X0_writeBlueFirst z62 y) (fun z66 s66 => fon (F_X1_add 0 s66) (fun z71 s71 => k49 v2 v4 v5 (v6 + 1) s71 pl) (fun _ _ => fno)) (fun _ _ => fno)) (fun _ _ => fno))
set_option maxHeartbeats 1000000 in
set_option maxRecDepth 100000 in
theorem b_X0_encode_49 (m0 : Mnt) (sh : Nat → Nat) (rr : Nat → Ras) (r : Nat) (x : Ras) (ww : Nat → Row) (o : Nat) (so : Nat) (sc : Src) (qo : Qoi) (pn : Pnm) (bm : Bmp) (tg : Tga) (px : Pcx) (fa : A) (hb : aH) (n : Nat) (hr : isR r) (ho : isW o) (k49 : Int32 → Int32 → Int32 → Int32 → Row → Pal → Out (Row × Pal) Unit) (hk49 : Q_X0_encode_49 m0 sh rr r x ww o so sc qo pn bm tg px fa hb n k49) : Q_X0_encode_49 m0 sh rr r x ww o so sc qo pn bm tg px fa hb n (F_X0_encode_49 x k49) := by
  intro v2 v4 v5 v6 y pl res hE hF
  unfold F_X0_encode_49 at hE
  refine aw_iload dX0_encode_49 rfl ?_
  refine aw_iload dX0_encode_51 rfl ?_
  refine aw_icmp_ge (tgt := 80) dX0_encode_53 (by decide) (fun c53 => ?_) (fun c53 => ?_)
  · replace hE := fit hE c53
    refine aw_aload_n dX0_encode_80 rfl ?_
    refine aw_getf (v := .int (x_g x)) dX0_encode_81 flX0_124_6 (at_ras hr) rfl ?_
    refine aw_iconst (v := 1) dX0_encode_84 (by decide) ?_
    refine aw_isub dX0_encode_85 ?_
    refine aw_istore (lv2 := [(6, _), (0, _), (1, _), (2, _), (3, _), (4, _), (5, _)]) dX0_encode_86 (by decide) rfl ?_
    exact aw_lv _ (List.forall_mem_cons.mpr ⟨rfl, (List.forall_mem_cons.mpr ⟨rfl, (List.forall_mem_cons.mpr ⟨rfl, (List.forall_mem_cons.mpr ⟨rfl, (List.forall_mem_cons.mpr ⟨rfl, (List.forall_mem_cons.mpr ⟨rfl, (List.forall_mem_cons.mpr ⟨rfl, fun _ h => absurd h List.not_mem_nil⟩)⟩)⟩)⟩)⟩)⟩)⟩) (lp_ind (Q_X0_encode_88 m0 sh rr r x ww o so sc qo pn bm tg px fa hb n) (fun _ _ _ _ _ _ res hq hF => (hF hq.symm).elim) (fun k hk => b_X0_encode_88 m0 sh rr r x ww o so sc qo pn bm tg px fa hb n hr ho  k hk) FU v2 v4 v5 ((x_g x) - 1) y pl _ hE hF)
  · replace hE := fif hE c53
    refine aw_aload_n dX0_encode_56 rfl ?_
    refine aw_getf (v := .ref 17) dX0_encode_57 flX0_15_0 at_bmp rfl ?_
    refine aw_iload dX0_encode_60 rfl ?_
    refine aw_callV dX0_encode_62 at_pal cvX0_190 rfl (kF_X3_get m0 sh (va_up rr r x) (va_up ww o y) so sc pl qo pn bm tg px fa hb _  v6 (fon_ne hE hF)) rfl (Nat.le_of_ble_eq_true rfl) (by decide) (by decide) (by decide) (by decide) (fun _ _ _ hf => False.elim hf) (fun r62 h62 n62 hp62 => ?_)
    obtain ⟨z62, s62, e62, rfl, rfl, rfl⟩ := hp62
    replace hE := fon_ok e62 hE
    refine aw_aload_n dX0_encode_65 rfl ?_
    refine aw_callS dX0_encode_66  csX0_194 rfl (kF_X0_writeBlueFirst m0 sh (va_up rr r x) ww o y so sc pl qo pn bm tg px fa hb _ ho z62 (fon_ne hE hF)) rfl (Nat.le_of_ble_eq_true rfl) (by decide) (by decide) (by decide) (by decide) (fun _ _ _ hf => False.elim hf) (fun r66 h66 n66 hp66 => ?_)
    obtain ⟨z66, s66, e66, rfl, rfl, rfl⟩ := hp66
    replace hE := fon_ok e66 hE
    refine aw_aload_n dX0_encode_69 rfl ?_
    refine aw_iconst (v := 0) dX0_encode_70 (by decide) ?_
    refine aw_callV dX0_encode_71 (at_row ho) cvX0_198 rfl (kF_X1_add m0 sh (va_up rr r x) ww o s66 so sc pl qo pn bm tg px fa hb _ ho 0 (fon_ne hE hF)) rfl (Nat.le_of_ble_eq_true rfl) (by decide) (by decide) (by decide) (by decide) (fun _ _ _ hf => False.elim hf) (fun r71 h71 n71 hp71 => ?_)
    obtain ⟨z71, s71, e71, rfl, rfl, rfl⟩ := hp71
    replace hE := fon_ok e71 hE
    refine aw_iinc (v := (v6 + 1)) (lv2 := [(6, _), (0, _), (1, _), (2, _), (3, _), (4, _), (5, _)]) dX0_encode_74 rfl (incE (by decide)) (by decide) rfl ?_
    refine aw_goto (tgt := 49) dX0_encode_77 (by decide) ?_
    exact aw_lv _ (List.forall_mem_cons.mpr ⟨rfl, (List.forall_mem_cons.mpr ⟨rfl, (List.forall_mem_cons.mpr ⟨rfl, (List.forall_mem_cons.mpr ⟨rfl, (List.forall_mem_cons.mpr ⟨rfl, (List.forall_mem_cons.mpr ⟨rfl, (List.forall_mem_cons.mpr ⟨rfl, fun _ h => absurd h List.not_mem_nil⟩)⟩)⟩)⟩)⟩)⟩)⟩) (hk49 v2 v4 v5 (v6 + 1) s71 pl _ hE hF)
def F_X0_encode_38 (x : Ras)  (v2 : Int32) (v4 : Int32) (v5 : Int32) (y : Row) (pl : Pal) : Out (Row × Pal) Unit := fon (F_X0_writeHeader v2 v5 x y) (fun z43 s43 => lp (fun _ _ _ _ _ _ => fno) (F_X0_encode_49 x) FU v2 v4 v5 (0 : Int32) s43 pl) (fun _ _ => fno)
set_option maxHeartbeats 1000000 in
set_option maxRecDepth 100000 in
theorem b_X0_encode_38 (m0 : Mnt) (sh : Nat → Nat) (rr : Nat → Ras) (r : Nat) (x : Ras) (ww : Nat → Row) (o : Nat) (so : Nat) (sc : Src) (qo : Qoi) (pn : Pnm) (bm : Bmp) (tg : Tga) (px : Pcx) (fa : A) (hb : aH) (n : Nat) (hr : isR r) (ho : isW o)  : Q_X0_encode_38 m0 sh rr r x ww o so sc qo pn bm tg px fa hb n (F_X0_encode_38 x) := by
  intro v2 v4 v5 y pl res hE hF
  unfold F_X0_encode_38 at hE
  refine aw_aload_n dX0_encode_38 rfl ?_
  refine aw_iload_n dX0_encode_39 rfl ?_
  refine aw_iload dX0_encode_40 rfl ?_
  refine aw_aload_n dX0_encode_42 rfl ?_
  refine aw_callS dX0_encode_43  csX0_186 rfl (kF_X0_writeHeader m0 sh rr r x ww o y so sc pl qo pn bm tg px fa hb _ hr ho v2 v5 (fon_ne hE hF)) rfl (Nat.le_of_ble_eq_true rfl) (by decide) (by decide) (by decide) (by decide) (fun _ _ _ hf => False.elim hf) (fun r43 h43 n43 hp43 => ?_)
  obtain ⟨z43, s43, e43, rfl, rfl, rfl⟩ := hp43
  replace hE := fon_ok e43 hE
  refine aw_iconst (v := 0) dX0_encode_46 (by decide) ?_
  refine aw_istore (lv2 := [(6, _), (0, _), (1, _), (2, _), (3, _), (4, _), (5, _)]) dX0_encode_47 (by decide) rfl ?_
  exact aw_lv _ (List.forall_mem_cons.mpr ⟨rfl, (List.forall_mem_cons.mpr ⟨rfl, (List.forall_mem_cons.mpr ⟨rfl, (List.forall_mem_cons.mpr ⟨rfl, (List.forall_mem_cons.mpr ⟨rfl, (List.forall_mem_cons.mpr ⟨rfl, (List.forall_mem_cons.mpr ⟨rfl, fun _ h => absurd h List.not_mem_nil⟩)⟩)⟩)⟩)⟩)⟩)⟩) (lp_ind (Q_X0_encode_49 m0 sh rr r x ww o so sc qo pn bm tg px fa hb n) (fun _ _ _ _ _ _ res hq hF => (hF hq.symm).elim) (fun k hk => b_X0_encode_49 m0 sh rr r x ww o so sc qo pn bm tg px fa hb n hr ho  k hk) FU v2 v4 v5 (0 : Int32) s43 pl _ hE hF)
def F_X0_encode_11 (x : Ras)  (v2 : Int32) (t0 : Int32) (y : Row) (pl : Pal) : Out (Row × Pal) Unit := if t0 = 0 then (F_X0_encode_38 x v2 t0 (0 : Int32) y pl) else (fon (F_X3_gather x pl) (fun z26 s26 => F_X0_encode_38 x v2 t0 (pl_n s26) y s26) (fun _ _ => fno))
set_option maxHeartbeats 1000000 in
set_option maxRecDepth 100000 in
theorem b_X0_encode_11 (m0 : Mnt) (sh : Nat → Nat) (rr : Nat → Ras) (r : Nat) (x : Ras) (ww : Nat → Row) (o : Nat) (so : Nat) (sc : Src) (qo : Qoi) (pn : Pnm) (bm : Bmp) (tg : Tga) (px : Pcx) (fa : A) (hb : aH) (n : Nat) (hr : isR r) (ho : isW o)  : Q_X0_encode_11 m0 sh rr r x ww o so sc qo pn bm tg px fa hb n (F_X0_encode_11 x) := by
  intro v2 t0 y pl res hE hF
  unfold F_X0_encode_11 at hE
  refine aw_istore (lv2 := [(4, _), (0, _), (1, _), (2, _), (3, _)]) dX0_encode_11 (by decide) rfl ?_
  refine aw_iconst (v := 0) dX0_encode_13 (by decide) ?_
  refine aw_istore (lv2 := [(5, _), (4, _), (0, _), (1, _), (2, _), (3, _)]) dX0_encode_14 (by decide) rfl ?_
  refine aw_iload dX0_encode_16 rfl ?_
  refine aw_if_eq (tgt := 38) dX0_encode_18 (by decide) (fun c18 => ?_) (fun c18 => ?_)
  · replace hE := fit hE c18
    exact aw_lv _ (List.forall_mem_cons.mpr ⟨rfl, (List.forall_mem_cons.mpr ⟨rfl, (List.forall_mem_cons.mpr ⟨rfl, (List.forall_mem_cons.mpr ⟨rfl, (List.forall_mem_cons.mpr ⟨rfl, (List.forall_mem_cons.mpr ⟨rfl, fun _ h => absurd h List.not_mem_nil⟩)⟩)⟩)⟩)⟩)⟩) (b_X0_encode_38 m0 sh rr r x ww o so sc qo pn bm tg px fa hb n hr ho  v2 t0 (0 : Int32) y pl _ hE hF)
  · replace hE := fif hE c18
    refine aw_aload_n dX0_encode_21 rfl ?_
    refine aw_getf (v := .ref 17) dX0_encode_22 flX0_15_0 at_bmp rfl ?_
    refine aw_aload_n dX0_encode_25 rfl ?_
    refine aw_callV dX0_encode_26 at_pal cvX0_177 rfl (kF_X3_gather m0 sh rr r x (va_up ww o y) so sc pl qo pn bm tg px fa hb _ hr  (fon_ne hE hF)) rfl (Nat.le_of_ble_eq_true rfl) (by decide) (by decide) (by decide) (by decide) (fun _ _ _ hf => False.elim hf) (fun r26 h26 n26 hp26 => ?_)
    obtain ⟨z26, s26, e26, rfl, rfl, rfl⟩ := hp26
    replace hE := fon_ok e26 hE
    refine aw_aload_n dX0_encode_29 rfl ?_
    refine aw_getf (v := .ref 17) dX0_encode_30 flX0_15_0 at_bmp rfl ?_
    refine aw_getf (v := .int (pl_n s26)) dX0_encode_33 flX0_183_2 at_pal rfl ?_
    refine aw_istore (lv2 := [(5, _), (4, _), (0, _), (1, _), (2, _), (3, _)]) dX0_encode_36 (by decide) rfl ?_
    exact aw_lv _ (List.forall_mem_cons.mpr ⟨rfl, (List.forall_mem_cons.mpr ⟨rfl, (List.forall_mem_cons.mpr ⟨rfl, (List.forall_mem_cons.mpr ⟨rfl, (List.forall_mem_cons.mpr ⟨rfl, (List.forall_mem_cons.mpr ⟨rfl, fun _ h => absurd h List.not_mem_nil⟩)⟩)⟩)⟩)⟩)⟩) (b_X0_encode_38 m0 sh rr r x ww o so sc qo pn bm tg px fa hb n hr ho  v2 t0 (pl_n s26) y s26 _ hE hF)
def F_X0_encode (a2 : Int32) (x : Ras) (y : Row) (pl : Pal) : Out (Row × Pal) Unit := if a2 = 7 then (F_X0_encode_11 x a2 (0 : Int32) y pl) else (F_X0_encode_11 x a2 (1 : Int32) y pl)
set_option maxHeartbeats 1000000 in
set_option maxRecDepth 100000 in
theorem kF_X0_encode (m0 : Mnt) (sh : Nat → Nat) (rr : Nat → Ras) (r : Nat) (x : Ras) (ww : Nat → Row) (o : Nat) (y : Row) (so : Nat) (sc : Src) (pl : Pal) (qo : Qoi) (pn : Pnm) (bm : Bmp) (tg : Tga) (px : Pcx) (fa : A) (hb : aH) (n : Nat) (hr : isR r) (ho : isW o) (a2 : Int32) (hF : F_X0_encode a2 x y pl ≠ fno) : AM mX0_encode 5 [.ref 24, .ref r, .int a2, .ref o] (HC m0 sh (va_up rr r x) (va_up ww o y) so sc pl qo pn bm tg px fa hb) n 0 0 0 0 (P_X0_encode m0 sh rr r x ww o so sc qo pn bm tg px fa hb n (F_X0_encode a2 x y pl)) (fun _ _ _ => False) := by
  generalize hE : F_X0_encode a2 x y pl = res at hF ⊢
  refine aw_of (by decide +kernel) rfl (Nat.le_of_ble_eq_true rfl) ?_
  unfold F_X0_encode at hE
  refine aw_iload_n dX0_encode_0 rfl ?_
  refine aw_bipush (v := 7) dX0_encode_1 (by decide) ?_
  refine aw_icmp_eq (tgt := 10) dX0_encode_3 (by decide) (fun c3 => ?_) (fun c3 => ?_)
  · replace hE := fit hE c3
    refine aw_iconst (v := 0) dX0_encode_10 (by decide) ?_
    exact aw_lv _ (List.forall_mem_cons.mpr ⟨rfl, (List.forall_mem_cons.mpr ⟨rfl, (List.forall_mem_cons.mpr ⟨rfl, (List.forall_mem_cons.mpr ⟨rfl, fun _ h => absurd h List.not_mem_nil⟩)⟩)⟩)⟩) (b_X0_encode_11 m0 sh rr r x ww o so sc qo pn bm tg px fa hb n hr ho  a2 (0 : Int32) y pl _ hE hF)
  · replace hE := fif hE c3
    refine aw_iconst (v := 1) dX0_encode_6 (by decide) ?_
    refine aw_goto (tgt := 11) dX0_encode_7 (by decide) ?_
    exact aw_lv _ (List.forall_mem_cons.mpr ⟨rfl, (List.forall_mem_cons.mpr ⟨rfl, (List.forall_mem_cons.mpr ⟨rfl, (List.forall_mem_cons.mpr ⟨rfl, fun _ h => absurd h List.not_mem_nil⟩)⟩)⟩)⟩) (b_X0_encode_11 m0 sh rr r x ww o so sc qo pn bm tg px fa hb n hr ho  a2 (1 : Int32) y pl _ hE hF)
