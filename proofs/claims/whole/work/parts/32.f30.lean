def P_X11_dot (mw : MW) (mr : MR) (ms : Nat) (mt : A) (mu : A) (wi : A) (hi : A) (gt : A) (sp : A) (ta : A) (li : A) (sr : A) (co : A) (hb : aH) (n : Nat) (res : Out (MO × A) Int32) : Option Value → aH → Nat → Prop := fun r1 h2 n2 => ∃ (a : Int32) (s : (MO × A)), res = fok a s ∧ r1 = some (.int a) ∧ h2 = HM s.1 mw mr ms mt mu s.2 wi hi gt sp ta li sr co hb ∧ n = n2
def F_X11_dot (a1 : Int32) (a2 : Int32) (a3 : Int32) (a4 : Int32) (mo : MO) (dd : A) (wi : A) (hi : A) : Out (MO × A) Int32 := fon (F_X11_pixelAt a1 a2 a3 ((mo_taped mo), 0, (mo_tf mo), (mo_t1 mo), (mo_t2 mo), (mo_t3 mo), (mo_fp mo)) wi hi) (fun z9 s9 => if 0 ≤ z9 then (if inb z9 16384 then (if inb z9 16384 then (fok ((dd (Int32.toNatClampNeg z9)) : Int32) (s9, (upd dd (Int32.toNatClampNeg z9) a4))) else fno) else fno) else (fok (0 : Int32) (s9, dd))) (fun _ _ => fno)
set_option maxHeartbeats 1000000 in
set_option maxRecDepth 100000 in
theorem kF_X11_dot (mo : MO) (mw : MW) (mr : MR) (ms : Nat) (mt : A) (mu : A) (dd : A) (wi : A) (hi : A) (gt : A) (sp : A) (ta : A) (li : A) (sr : A) (co : A) (hb : aH) (n : Nat)  (a1 : Int32) (a2 : Int32) (a3 : Int32) (a4 : Int32) (hF : F_X11_dot a1 a2 a3 a4 mo dd wi hi ≠ fno) : AM mX11_dot 3 [.ref 31, .int a1, .int a2, .int a3, .int a4] (HM mo mw mr ms mt mu dd wi hi gt sp ta li sr co hb) n 0 0 0 0 (P_X11_dot mw mr ms mt mu wi hi gt sp ta li sr co hb n (F_X11_dot a1 a2 a3 a4 mo dd wi hi)) (fun _ _ _ => False) := by
  generalize hE : F_X11_dot a1 a2 a3 a4 mo dd wi hi = res at hF ⊢
  refine aw_of (by decide +kernel) rfl (Nat.le_of_ble_eq_true rfl) ?_
  unfold F_X11_dot at hE
  refine aw_aload_n dX11_dot_0 rfl ?_
  refine aw_iconst (v := 0) dX11_dot_1 (by decide) ?_
  refine aw_putf dX11_dot_2 ptX11_61_10 at_mod (Nat.le_of_ble_eq_true rfl) ⟨rfl, rfl⟩ ?_
  refine aw_eqh (h2 := HM ((mo_taped mo), 0, (mo_tf mo), (mo_t1 mo), (mo_t2 mo), (mo_t3 mo), (mo_fp mo)) mw mr ms mt mu dd wi hi gt sp ta li sr co hb) up_mod ?_
  refine aw_aload_n dX11_dot_5 rfl ?_
  refine aw_iload_n dX11_dot_6 rfl ?_
  refine aw_iload_n dX11_dot_7 rfl ?_
  refine aw_iload_n dX11_dot_8 rfl ?_
  refine aw_callV dX11_dot_9 at_mod cvX11_334 rfl (kF_X11_pixelAt ((mo_taped mo), 0, (mo_tf mo), (mo_t1 mo), (mo_t2 mo), (mo_t3 mo), (mo_fp mo)) mw mr ms mt mu dd wi hi gt sp ta li sr co hb _  a1 a2 a3 (fon_ne hE hF)) rfl (Nat.le_of_ble_eq_true rfl) (by decide) (by decide) (by decide) (by decide) (fun _ _ _ hf => False.elim hf) (fun r9 h9 n9 hp9 => ?_)
  obtain ⟨z9, s9, e9, rfl, rfl, rfl⟩ := hp9
  replace hE := fon_ok e9 hE
  refine aw_istore (lv2 := [(5, _), (0, _), (1, _), (2, _), (3, _), (4, _)]) dX11_dot_12 (by decide) rfl ?_
  refine aw_iload dX11_dot_14 rfl ?_
  refine aw_if_ge (tgt := 21) dX11_dot_16 (by decide) (fun c16 => ?_) (fun c16 => ?_)
  · replace hE := fit hE c16
    refine aw_aload_n dX11_dot_21 rfl ?_
    refine aw_getf (v := .ref 34) dX11_dot_22 flX11_17_10 at_mod rfl ?_
    refine aw_iload dX11_dot_25 rfl ?_
    obtain ⟨g27, hE⟩ := fgd hE hF
    refine aw_iald (f := dd) dX11_dot_27 at_mdots (vp_in_iff.mpr g27) ?_
    refine aw_istore (lv2 := [(6, _), (5, _), (0, _), (1, _), (2, _), (3, _), (4, _)]) dX11_dot_28 (by decide) rfl ?_
    refine aw_aload_n dX11_dot_30 rfl ?_
    refine aw_getf (v := .ref 34) dX11_dot_31 flX11_17_10 at_mod rfl ?_
    refine aw_iload dX11_dot_34 rfl ?_
    refine aw_iload dX11_dot_36 rfl ?_
    obtain ⟨g38, hE⟩ := fgd hE hF
    refine aw_iast (f := dd) dX11_dot_38 at_mdots (vp_in_iff.mpr g38) ?_
    refine aw_eqh (h2 := HM s9 mw mr ms mt mu (upd dd (Int32.toNatClampNeg z9) a4) wi hi gt sp ta li sr co hb) up_mdots ?_
    refine aw_iload dX11_dot_39 rfl ?_
    exact aw_iret dX11_dot_41 rfl (Nat.zero_le _) (Nat.zero_le _) (Nat.zero_le _) (Nat.zero_le _) ⟨_, _, hE.symm, rfl, rfl, rfl⟩
  · replace hE := fif hE c16
    refine aw_iconst (v := 0) dX11_dot_19 (by decide) ?_
    exact aw_iret dX11_dot_20 rfl (Nat.zero_le _) (Nat.zero_le _) (Nat.zero_le _) (Nat.zero_le _) ⟨_, _, hE.symm, rfl, rfl, rfl⟩
def P_X11_raster (mw : MW) (mr : MR) (ms : Nat) (mt : A) (mu : A) (dd : A) (wi : A) (hi : A) (gt : A) (sp : A) (ta : A) (li : A) (co : A) (hb : aH) (n : Nat) (res : Out (MO × A) Int32) : Option Value → aH → Nat → Prop := fun r1 h2 n2 => ∃ (a : Int32) (s : (MO × A)), res = fok a s ∧ r1 = some (.int a) ∧ h2 = HM s.1 mw mr ms mt mu dd wi hi gt sp ta li s.2 co hb ∧ n = n2
abbrev Q_X11_raster_21 (mw : MW) (mr : MR) (ms : Nat) (mt : A) (mu : A) (dd : A) (wi : A) (hi : A) (gt : A) (sp : A) (ta : A) (li : A) (co : A) (hb : aH) (n : Nat) (k : MO → A → Out (MO × A) Int32) : Prop := ∀ (mo : MO) (sr : A) (res : Out (MO × A) Int32), k mo sr = res → res ≠ fno → AW (fun _ _ => True) mX11_raster (rmD 3 0 0) 0 0 (P_X11_raster mw mr ms mt mu dd wi hi gt sp ta li co hb n res) (fun _ _ _ => False) 0 0 21 [] [] (HM mo mw mr ms mt mu dd wi hi gt sp ta li sr co hb) n
def F_X11_raster_21 (dd : A) (wi : A) (hi : A)  (mo : MO) (sr : A) : Out (MO × A) Int32 := fok ((-1) : Int32) (mo, sr)
set_option maxHeartbeats 1000000 in
set_option maxRecDepth 100000 in
theorem b_X11_raster_21 (mw : MW) (mr : MR) (ms : Nat) (mt : A) (mu : A) (dd : A) (wi : A) (hi : A) (gt : A) (sp : A) (ta : A) (li : A) (co : A) (hb : aH) (n : Nat)   : Q_X11_raster_21 mw mr ms mt mu dd wi hi gt sp ta li co hb n (F_X11_raster_21 dd wi hi) := by
  intro mo sr res hE hF
  unfold F_X11_raster_21 at hE
  refine aw_iconst (v := (-1)) dX11_raster_21 (by decide) ?_
  exact aw_iret dX11_raster_22 rfl (Nat.zero_le _) (Nat.zero_le _) (Nat.zero_le _) (Nat.zero_le _) ⟨_, _, hE.symm, rfl, rfl, rfl⟩
def F_X11_raster (a1 : Int32) (a2 : Int32) (mo : MO) (dd : A) (wi : A) (hi : A) (sr : A) : Out (MO × A) Int32 := if (F_X11_isShelf a1) = 0 then (F_X11_raster_21 dd wi hi ((mo_taped mo), 0, (mo_tf mo), (mo_t1 mo), (mo_t2 mo), (mo_t3 mo), (mo_fp mo)) sr) else (if inb a1 4 then (if (wi (Int32.toNatClampNeg a1)) = 0 then (F_X11_raster_21 dd wi hi ((mo_taped mo), 0, (mo_tf mo), (mo_t1 mo), (mo_t2 mo), (mo_t3 mo), (mo_fp mo)) sr) else (if a2 = 0 then (if inb a1 4 then (fok ((wi (Int32.toNatClampNeg a1)) : Int32) (((mo_taped mo), 0, (mo_tf mo), (mo_t1 mo), (mo_t2 mo), (mo_t3 mo), (mo_fp mo)), sr)) else fno) else (if a2 = 1 then (if inb a1 4 then (fok ((hi (Int32.toNatClampNeg a1)) : Int32) (((mo_taped mo), 0, (mo_tf mo), (mo_t1 mo), (mo_t2 mo), (mo_t3 mo), (mo_fp mo)), sr)) else fno) else (if a2 = 2 then (fon (F_X11_colourCount a1 dd wi hi sr) (fun z80 s80 => fok (z80 : Int32) (((mo_taped mo), 0, (mo_tf mo), (mo_t1 mo), (mo_t2 mo), (mo_t3 mo), (mo_fp mo)), s80)) (fun _ _ => fno)) else (if a2 = 3 then (fon (F_X11_isOpaque a1 dd wi hi) (fun z86 s86 => if z86 = 0 then (fok (0 : Int32) (((mo_taped mo), 0, (mo_tf mo), (mo_t1 mo), (mo_t2 mo), (mo_t3 mo), (mo_fp mo)), sr)) else (fok (1 : Int32) (((mo_taped mo), 0, (mo_tf mo), (mo_t1 mo), (mo_t2 mo), (mo_t3 mo), (mo_fp mo)), sr))) (fun _ _ => fno)) else (if a2 = 4 then (fon (F_X11_isGrayRaster a1 dd wi hi) (fun z100 s100 => if z100 = 0 then (fok (0 : Int32) (((mo_taped mo), 0, (mo_tf mo), (mo_t1 mo), (mo_t2 mo), (mo_t3 mo), (mo_fp mo)), sr)) else (fok (1 : Int32) (((mo_taped mo), 0, (mo_tf mo), (mo_t1 mo), (mo_t2 mo), (mo_t3 mo), (mo_fp mo)), sr))) (fun _ _ => fno)) else (if a2 = 5 then (fon (F_X11_isPlain a1 dd wi hi) (fun z114 s114 => if z114 = 0 then (fok (0 : Int32) (((mo_taped mo), 0, (mo_tf mo), (mo_t1 mo), (mo_t2 mo), (mo_t3 mo), (mo_fp mo)), sr)) else (fok (1 : Int32) (((mo_taped mo), 0, (mo_tf mo), (mo_t1 mo), (mo_t2 mo), (mo_t3 mo), (mo_fp mo)), sr))) (fun _ _ => fno)) else (fok ((-1) : Int32) (((mo_taped mo), 0, (mo_tf mo), (mo_t1 mo), (mo_t2 mo), (mo_t3 mo), (mo_fp mo)), sr))))))))) else fno)
set_option maxHeartbeats 1000000 in
set_option maxRecDepth 100000 in
theorem kF_X11_raster (mo : MO) (mw : MW) (mr : MR) (ms : Nat) (mt : A) (mu : A) (dd : A) (wi : A) (hi : A) (gt : A) (sp : A) (ta : A) (li : A) (sr : A) (co : A) (hb : aH) (n : Nat)  (a1 : Int32) (a2 : Int32) (hF : F_X11_raster a1 a2 mo dd wi hi sr ≠ fno) : AM mX11_raster 3 [.ref 31, .int a1, .int a2] (HM mo mw mr ms mt mu dd wi hi gt sp ta li sr co hb) n 0 0 0 0 (P_X11_raster mw mr ms mt mu dd wi hi gt sp ta li co hb n (F_X11_raster a1 a2 mo dd wi hi sr)) (fun _ _ _ => False) := by
  generalize hE : F_X11_raster a1 a2 mo dd wi hi sr = res at hF ⊢
  refine aw_of (by decide +kernel) rfl (Nat.le_of_ble_eq_true rfl) ?_
  unfold F_X11_raster at hE
  refine aw_aload_n dX11_raster_0 rfl ?_
  refine aw_iconst (v := 0) dX11_raster_1 (by decide) ?_
  refine aw_putf dX11_raster_2 ptX11_61_10 at_mod (Nat.le_of_ble_eq_true rfl) ⟨rfl, rfl⟩ ?_
  refine aw_eqh (h2 := HM ((mo_taped mo), 0, (mo_tf mo), (mo_t1 mo), (mo_t2 mo), (mo_t3 mo), (mo_fp mo)) mw mr ms mt mu dd wi hi gt sp ta li sr co hb) up_mod ?_
  refine aw_iload_n dX11_raster_5 rfl ?_
  refine aw_callS dX11_raster_6  csX11_245 rfl (kF_X11_isShelf _ _ a1) rfl (Nat.le_of_ble_eq_true rfl) (by decide) (by decide) (by decide) (by decide) (fun _ _ _ hf => False.elim hf) (fun r6 h6 n6 hp6 => ?_)
  obtain ⟨rfl, rfl, rfl⟩ := hp6
  refine aw_if_eq (tgt := 21) dX11_raster_9 (by decide) (fun c9 => ?_) (fun c9 => ?_)
  · replace hE := fit hE c9
    exact aw_lv _ (fun _ h => absurd h List.not_mem_nil) (b_X11_raster_21 mw mr ms mt mu dd wi hi gt sp ta li co hb n   ((mo_taped mo), 0, (mo_tf mo), (mo_t1 mo), (mo_t2 mo), (mo_t3 mo), (mo_fp mo)) sr _ hE hF)
  · replace hE := fif hE c9
    refine aw_aload_n dX11_raster_12 rfl ?_
    refine aw_getf (v := .ref 35) dX11_raster_13 flX11_21_10 at_mod rfl ?_
    refine aw_iload_n dX11_raster_16 rfl ?_
    obtain ⟨g17, hE⟩ := fgd hE hF
    refine aw_iald (f := wi) dX11_raster_17 at_mwide (vp_in_iff.mpr g17) ?_
    refine aw_if_ne (tgt := 23) dX11_raster_18 (by decide) (fun c18 => ?_) (fun c18 => ?_)
    · replace hE := fif hE c18
      refine aw_iload_n dX11_raster_23 rfl ?_
      by_cases e24_0 : a2 = 0
      · replace hE := fit hE e24_0
        refine aw_tableIn (tgt := 64) dX11_raster_24 (by rw [e24_0]; decide) (by rw [e24_0]; decide) (off := 40) (by rw [e24_0]; decide) (by decide) ?_
        refine aw_aload_n dX11_raster_64 rfl ?_
        refine aw_getf (v := .ref 35) dX11_raster_65 flX11_21_10 at_mod rfl ?_
        refine aw_iload_n dX11_raster_68 rfl ?_
        obtain ⟨g69, hE⟩ := fgd hE hF
        refine aw_iald (f := wi) dX11_raster_69 at_mwide (vp_in_iff.mpr g69) ?_
        exact aw_iret dX11_raster_70 rfl (Nat.zero_le _) (Nat.zero_le _) (Nat.zero_le _) (Nat.zero_le _) ⟨_, _, hE.symm, rfl, rfl, rfl⟩
      replace hE := fif hE e24_0
      by_cases e24_1 : a2 = 1
      · replace hE := fit hE e24_1
        refine aw_tableIn (tgt := 71) dX11_raster_24 (by rw [e24_1]; decide) (by rw [e24_1]; decide) (off := 47) (by rw [e24_1]; decide) (by decide) ?_
        refine aw_aload_n dX11_raster_71 rfl ?_
        refine aw_getf (v := .ref 36) dX11_raster_72 flX11_24_10 at_mod rfl ?_
        refine aw_iload_n dX11_raster_75 rfl ?_
        obtain ⟨g76, hE⟩ := fgd hE hF
        refine aw_iald (f := hi) dX11_raster_76 at_mhigh (vp_in_iff.mpr g76) ?_
        exact aw_iret dX11_raster_77 rfl (Nat.zero_le _) (Nat.zero_le _) (Nat.zero_le _) (Nat.zero_le _) ⟨_, _, hE.symm, rfl, rfl, rfl⟩
      replace hE := fif hE e24_1
      by_cases e24_2 : a2 = 2
      · replace hE := fit hE e24_2
        refine aw_tableIn (tgt := 78) dX11_raster_24 (by rw [e24_2]; decide) (by rw [e24_2]; decide) (off := 54) (by rw [e24_2]; decide) (by decide) ?_
        refine aw_aload_n dX11_raster_78 rfl ?_
        refine aw_iload_n dX11_raster_79 rfl ?_
        refine aw_callV dX11_raster_80 at_mod cvX11_277 rfl (kF_X11_colourCount ((mo_taped mo), 0, (mo_tf mo), (mo_t1 mo), (mo_t2 mo), (mo_t3 mo), (mo_fp mo)) mw mr ms mt mu dd wi hi gt sp ta li sr co hb _  a1 (fon_ne hE hF)) rfl (Nat.le_of_ble_eq_true rfl) (by decide) (by decide) (by decide) (by decide) (fun _ _ _ hf => False.elim hf) (fun r80 h80 n80 hp80 => ?_)
        obtain ⟨z80, s80, e80, rfl, rfl, rfl⟩ := hp80
        replace hE := fon_ok e80 hE
        exact aw_iret dX11_raster_83 rfl (Nat.zero_le _) (Nat.zero_le _) (Nat.zero_le _) (Nat.zero_le _) ⟨_, _, hE.symm, rfl, rfl, rfl⟩
      replace hE := fif hE e24_2
      by_cases e24_3 : a2 = 3
      · replace hE := fit hE e24_3
        refine aw_tableIn (tgt := 84) dX11_raster_24 (by rw [e24_3]; decide) (by rw [e24_3]; decide) (off := 60) (by rw [e24_3]; decide) (by decide) ?_
        refine aw_aload_n dX11_raster_84 rfl ?_
        refine aw_iload_n dX11_raster_85 rfl ?_
        refine aw_callV dX11_raster_86 at_mod cvX11_271 rfl (kF_X11_isOpaque ((mo_taped mo), 0, (mo_tf mo), (mo_t1 mo), (mo_t2 mo), (mo_t3 mo), (mo_fp mo)) mw mr ms mt mu dd wi hi gt sp ta li sr co hb _  a1 (fon_ne hE hF)) rfl (Nat.le_of_ble_eq_true rfl) (by decide) (by decide) (by decide) (by decide) (fun _ _ _ hf => False.elim hf) (fun r86 h86 n86 hp86 => ?_)
        obtain ⟨z86, s86, e86, rfl, rfl, rfl⟩ := hp86
        replace hE := fon_ok e86 hE
        refine aw_if_eq (tgt := 96) dX11_raster_89 (by decide) (fun c89 => ?_) (fun c89 => ?_)
        · replace hE := fit hE c89
          refine aw_iconst (v := 0) dX11_raster_96 (by decide) ?_
          exact aw_iret dX11_raster_97 rfl (Nat.zero_le _) (Nat.zero_le _) (Nat.zero_le _) (Nat.zero_le _) ⟨_, _, hE.symm, rfl, rfl, rfl⟩
        · replace hE := fif hE c89
          refine aw_iconst (v := 1) dX11_raster_92 (by decide) ?_
          refine aw_goto (tgt := 97) dX11_raster_93 (by decide) ?_
          exact aw_iret dX11_raster_97 rfl (Nat.zero_le _) (Nat.zero_le _) (Nat.zero_le _) (Nat.zero_le _) ⟨_, _, hE.symm, rfl, rfl, rfl⟩
      replace hE := fif hE e24_3
      by_cases e24_4 : a2 = 4
      · replace hE := fit hE e24_4
        refine aw_tableIn (tgt := 98) dX11_raster_24 (by rw [e24_4]; decide) (by rw [e24_4]; decide) (off := 74) (by rw [e24_4]; decide) (by decide) ?_
        refine aw_aload_n dX11_raster_98 rfl ?_
        refine aw_iload_n dX11_raster_99 rfl ?_
        refine aw_callV dX11_raster_100 at_mod cvX11_274 rfl (kF_X11_isGrayRaster ((mo_taped mo), 0, (mo_tf mo), (mo_t1 mo), (mo_t2 mo), (mo_t3 mo), (mo_fp mo)) mw mr ms mt mu dd wi hi gt sp ta li sr co hb _  a1 (fon_ne hE hF)) rfl (Nat.le_of_ble_eq_true rfl) (by decide) (by decide) (by decide) (by decide) (fun _ _ _ hf => False.elim hf) (fun r100 h100 n100 hp100 => ?_)
        obtain ⟨z100, s100, e100, rfl, rfl, rfl⟩ := hp100
        replace hE := fon_ok e100 hE
        refine aw_if_eq (tgt := 110) dX11_raster_103 (by decide) (fun c103 => ?_) (fun c103 => ?_)
        · replace hE := fit hE c103
          refine aw_iconst (v := 0) dX11_raster_110 (by decide) ?_
          exact aw_iret dX11_raster_111 rfl (Nat.zero_le _) (Nat.zero_le _) (Nat.zero_le _) (Nat.zero_le _) ⟨_, _, hE.symm, rfl, rfl, rfl⟩
        · replace hE := fif hE c103
          refine aw_iconst (v := 1) dX11_raster_106 (by decide) ?_
          refine aw_goto (tgt := 111) dX11_raster_107 (by decide) ?_
          exact aw_iret dX11_raster_111 rfl (Nat.zero_le _) (Nat.zero_le _) (Nat.zero_le _) (Nat.zero_le _) ⟨_, _, hE.symm, rfl, rfl, rfl⟩
      replace hE := fif hE e24_4
      by_cases e24_5 : a2 = 5
      · replace hE := fit hE e24_5
        refine aw_tableIn (tgt := 112) dX11_raster_24 (by rw [e24_5]; decide) (by rw [e24_5]; decide) (off := 88) (by rw [e24_5]; decide) (by decide) ?_
        refine aw_aload_n dX11_raster_112 rfl ?_
        refine aw_iload_n dX11_raster_113 rfl ?_
        refine aw_callV dX11_raster_114 at_mod cvX11_268 rfl (kF_X11_isPlain ((mo_taped mo), 0, (mo_tf mo), (mo_t1 mo), (mo_t2 mo), (mo_t3 mo), (mo_fp mo)) mw mr ms mt mu dd wi hi gt sp ta li sr co hb _  a1 (fon_ne hE hF)) rfl (Nat.le_of_ble_eq_true rfl) (by decide) (by decide) (by decide) (by decide) (fun _ _ _ hf => False.elim hf) (fun r114 h114 n114 hp114 => ?_)
        obtain ⟨z114, s114, e114, rfl, rfl, rfl⟩ := hp114
        replace hE := fon_ok e114 hE
        refine aw_if_eq (tgt := 124) dX11_raster_117 (by decide) (fun c117 => ?_) (fun c117 => ?_)
        · replace hE := fit hE c117
          refine aw_iconst (v := 0) dX11_raster_124 (by decide) ?_
          exact aw_iret dX11_raster_125 rfl (Nat.zero_le _) (Nat.zero_le _) (Nat.zero_le _) (Nat.zero_le _) ⟨_, _, hE.symm, rfl, rfl, rfl⟩
        · replace hE := fif hE c117
          refine aw_iconst (v := 1) dX11_raster_120 (by decide) ?_
          refine aw_goto (tgt := 125) dX11_raster_121 (by decide) ?_
          exact aw_iret dX11_raster_125 rfl (Nat.zero_le _) (Nat.zero_le _) (Nat.zero_le _) (Nat.zero_le _) ⟨_, _, hE.symm, rfl, rfl, rfl⟩
      replace hE := fif hE e24_5
      have q24_0 : ¬ Int32.toInt a2 = 0 := fun q => e24_0 (Int32.toInt_inj.mp (q.trans (by decide)))
      have q24_1 : ¬ Int32.toInt a2 = 1 := fun q => e24_1 (Int32.toInt_inj.mp (q.trans (by decide)))
      have q24_2 : ¬ Int32.toInt a2 = 2 := fun q => e24_2 (Int32.toInt_inj.mp (q.trans (by decide)))
      have q24_3 : ¬ Int32.toInt a2 = 3 := fun q => e24_3 (Int32.toInt_inj.mp (q.trans (by decide)))
      have q24_4 : ¬ Int32.toInt a2 = 4 := fun q => e24_4 (Int32.toInt_inj.mp (q.trans (by decide)))
      have q24_5 : ¬ Int32.toInt a2 = 5 := fun q => e24_5 (Int32.toInt_inj.mp (q.trans (by decide)))
      refine aw_tableOut (tgt := 126) dX11_raster_24 (by omega) (by decide) ?_
      refine aw_iconst (v := (-1)) dX11_raster_126 (by decide) ?_
      exact aw_iret dX11_raster_127 rfl (Nat.zero_le _) (Nat.zero_le _) (Nat.zero_le _) (Nat.zero_le _) ⟨_, _, hE.symm, rfl, rfl, rfl⟩
    · replace hE := fit hE c18
      exact aw_lv _ (fun _ h => absurd h List.not_mem_nil) (b_X11_raster_21 mw mr ms mt mu dd wi hi gt sp ta li co hb n   ((mo_taped mo), 0, (mo_tf mo), (mo_t1 mo), (mo_t2 mo), (mo_t3 mo), (mo_fp mo)) sr _ hE hF)
def P_X10_hasFewColours (m0 : Mnt) (sh : Nat → Nat) (rr : Nat → Ras) (r : Nat) (x : Ras) (ww : Nat → Row) (so : Nat) (sc : Src) (qo : Qoi) (pn : Pnm) (bm : Bmp) (tg : Tga) (px : Pcx) (fa : A) (hb : aH) (n : Nat) (res : Out Pal Int32) : Option Value → aH → Nat → Prop := fun r1 h2 n2 => ∃ (a : Int32) (s : Pal), res = fok a s ∧ r1 = some (.int a) ∧ h2 = HC m0 sh (va_up rr r x) ww so sc s qo pn bm tg px fa hb ∧ n = n2
def F_X10_hasFewColours (x : Ras) (pl : Pal) : Out Pal Int32 := fon (F_X3_gather x pl) (fun z5 s5 => if 256 < (pl_n s5) then (fok (0 : Int32) s5) else (fok (1 : Int32) s5)) (fun _ _ => fno)
set_option maxHeartbeats 1000000 in
set_option maxRecDepth 100000 in
theorem kF_X10_hasFewColours (m0 : Mnt) (sh : Nat → Nat) (rr : Nat → Ras) (r : Nat) (x : Ras) (ww : Nat → Row) (so : Nat) (sc : Src) (pl : Pal) (qo : Qoi) (pn : Pnm) (bm : Bmp) (tg : Tga) (px : Pcx) (fa : A) (hb : aH) (n : Nat) (hr : isR r)  (hF : F_X10_hasFewColours x pl ≠ fno) : AM mX10_hasFewColours 3 [.ref 0, .ref r] (HC m0 sh (va_up rr r x) ww so sc pl qo pn bm tg px fa hb) n 0 0 0 0 (P_X10_hasFewColours m0 sh rr r x ww so sc qo pn bm tg px fa hb n (F_X10_hasFewColours x pl)) (fun _ _ _ => False) := by
  generalize hE : F_X10_hasFewColours x pl = res at hF ⊢
  refine aw_of (by decide +kernel) rfl (Nat.le_of_ble_eq_true rfl) ?_
  unfold F_X10_hasFewColours at hE
  refine aw_aload_n dX10_hasFewColours_0 rfl ?_
  refine aw_getf (v := .ref 17) dX10_hasFewColours_1 flX10_42_9 at_mint rfl ?_
  refine aw_aload_n dX10_hasFewColours_4 rfl ?_
  refine aw_callV dX10_hasFewColours_5 at_pal cvX10_166 rfl (kF_X3_gather m0 sh rr r x ww so sc pl qo pn bm tg px fa hb _ hr  (fon_ne hE hF)) rfl (Nat.le_of_ble_eq_true rfl) (by decide) (by decide) (by decide) (by decide) (fun _ _ _ hf => False.elim hf) (fun r5 h5 n5 hp5 => ?_)
  obtain ⟨z5, s5, e5, rfl, rfl, rfl⟩ := hp5
  replace hE := fon_ok e5 hE
  refine aw_aload_n dX10_hasFewColours_8 rfl ?_
  refine aw_getf (v := .ref 17) dX10_hasFewColours_9 flX10_42_9 at_mint rfl ?_
  refine aw_getf (v := .int (pl_n s5)) dX10_hasFewColours_12 flX10_170_2 at_pal rfl ?_
  refine aw_sipush (v := 256) dX10_hasFewColours_15 (by decide) ?_
  refine aw_icmp_gt (tgt := 25) dX10_hasFewColours_18 (by decide) (fun c18 => ?_) (fun c18 => ?_)
  · replace hE := fit hE c18
    refine aw_iconst (v := 0) dX10_hasFewColours_25 (by decide) ?_
    exact aw_zret dX10_hasFewColours_26 rfl (narB (by decide)) (Nat.zero_le _) (Nat.zero_le _) (Nat.zero_le _) (Nat.zero_le _) ⟨_, _, hE.symm, rfl, rfl, rfl⟩
  · replace hE := fif hE c18
    refine aw_iconst (v := 1) dX10_hasFewColours_21 (by decide) ?_
    refine aw_goto (tgt := 26) dX10_hasFewColours_22 (by decide) ?_
    exact aw_zret dX10_hasFewColours_26 rfl (narB (by decide)) (Nat.zero_le _) (Nat.zero_le _) (Nat.zero_le _) (Nat.zero_le _) ⟨_, _, hE.symm, rfl, rfl, rfl⟩
def P_X0_writeHeader (m0 : Mnt) (sh : Nat → Nat) (rr : Nat → Ras) (r : Nat) (x : Ras) (ww : Nat → Row) (o : Nat) (so : Nat) (sc : Src) (pl : Pal) (qo : Qoi) (pn : Pnm) (bm : Bmp) (tg : Tga) (px : Pcx) (fa : A) (hb : aH) (n : Nat) (res : Out Row Unit) : Option Value → aH → Nat → Prop := fun r1 h2 n2 => ∃ (a : Unit) (s : Row), res = fok a s ∧ r1 = none ∧ h2 = HC m0 sh (va_up rr r x) (va_up ww o s) so sc pl qo pn bm tg px fa hb ∧ n = n2
abbrev Q_X0_writeHeader_69 (m0 : Mnt) (sh : Nat → Nat) (rr : Nat → Ras) (r : Nat) (x : Ras) (ww : Nat → Row) (o : Nat) (so : Nat) (sc : Src) (pl : Pal) (qo : Qoi) (pn : Pnm) (bm : Bmp) (tg : Tga) (px : Pcx) (fa : A) (hb : aH) (n : Nat) (k : Int32 → Int32 → Int32 → Row → Out Row Unit) : Prop := ∀ (v1 : Int32) (v2 : Int32) (t0 : Int32) (y : Row) (res : Out Row Unit), k v1 v2 t0 y = res → res ≠ fno → AW (fun _ _ => True) mX0_writeHeader (rmD 4 0 0) 0 0 (P_X0_writeHeader m0 sh rr r x ww o so sc pl qo pn bm tg px fa hb n res) (fun _ _ _ => False) 0 0 69 [(1, .int v1), (2, .int v2), (3, .ref o)] [.int t0, .ref o] (HC m0 sh (va_up rr r x) (va_up ww o y) so sc pl qo pn bm tg px fa hb) n
abbrev Q_X0_writeHeader_84 (m0 : Mnt) (sh : Nat → Nat) (rr : Nat → Ras) (r : Nat) (x : Ras) (ww : Nat → Row) (o : Nat) (so : Nat) (sc : Src) (pl : Pal) (qo : Qoi) (pn : Pnm) (bm : Bmp) (tg : Tga) (px : Pcx) (fa : A) (hb : aH) (n : Nat) (k : Int32 → Int32 → Row → Out Row Unit) : Prop := ∀ (v2 : Int32) (t0 : Int32) (y : Row) (res : Out Row Unit), k v2 t0 y = res → res ≠ fno → AW (fun _ _ => True) mX0_writeHeader (rmD 4 0 0) 0 0 (P_X0_writeHeader m0 sh rr r x ww o so sc pl qo pn bm tg px fa hb n res) (fun _ _ _ => False) 0 0 84 [(2, .int v2), (3, .ref o)] [.int t0, .ref o] (HC m0 sh (va_up rr r x) (va_up ww o y) so sc pl qo pn bm tg px fa hb) n
def F_X0_writeHeader_84 (x : Ras)  (v2 : Int32) (t0 : Int32) (y : Row) : Out Row Unit := fon (F_X1_addLow4 t0 y) (fun z84 s84 => fon (F_X1_addLow4 0 s84) (fun z89 s89 => fon (F_X1_addLow4 2835 s89) (fun z96 s96 => fon (F_X1_addLow4 2835 s96) (fun z103 s103 => fon (F_X1_addLow4 v2 s103) (fun z108 s108 => fon (F_X1_addLow4 0 s108) (fun z113 s113 => fok () s113) (fun _ _ => fno)) (fun _ _ => fno)) (fun _ _ => fno)) (fun _ _ => fno)) (fun _ _ => fno)) (fun _ _ => fno)
set_option maxHeartbeats 1000000 in
set_option maxRecDepth 100000 in
theorem b_X0_writeHeader_84 (m0 : Mnt) (sh : Nat → Nat) (rr : Nat → Ras) (r : Nat) (x : Ras) (ww : Nat → Row) (o : Nat) (so : Nat) (sc : Src) (pl : Pal) (qo : Qoi) (pn : Pnm) (bm : Bmp) (tg : Tga) (px : Pcx) (fa : A) (hb : aH) (n : Nat) (hr : isR r) (ho : isW o)  : Q_X0_writeHeader_84 m0 sh rr r x ww o so sc pl qo pn bm tg px fa hb n (F_X0_writeHeader_84 x) := by
  intro v2 t0 y res hE hF
  unfold F_X0_writeHeader_84 at hE
  refine aw_callV dX0_writeHeader_84 (at_row ho) cvX0_218 rfl (kF_X1_addLow4 m0 sh (va_up rr r x) ww o y so sc pl qo pn bm tg px fa hb _ ho t0 (fon_ne hE hF)) rfl (Nat.le_of_ble_eq_true rfl) (by decide) (by decide) (by decide) (by decide) (fun _ _ _ hf => False.elim hf) (fun r84 h84 n84 hp84 => ?_)
  obtain ⟨z84, s84, e84, rfl, rfl, rfl⟩ := hp84
  replace hE := fon_ok e84 hE
  refine aw_aload_n dX0_writeHeader_87 rfl ?_
  refine aw_iconst (v := 0) dX0_writeHeader_88 (by decide) ?_
  refine aw_callV dX0_writeHeader_89 (at_row ho) cvX0_218 rfl (kF_X1_addLow4 m0 sh (va_up rr r x) ww o s84 so sc pl qo pn bm tg px fa hb _ ho 0 (fon_ne hE hF)) rfl (Nat.le_of_ble_eq_true rfl) (by decide) (by decide) (by decide) (by decide) (fun _ _ _ hf => False.elim hf) (fun r89 h89 n89 hp89 => ?_)
  obtain ⟨z89, s89, e89, rfl, rfl, rfl⟩ := hp89
  replace hE := fon_ok e89 hE
  refine aw_aload_n dX0_writeHeader_92 rfl ?_
  refine aw_sipush (v := 2835) dX0_writeHeader_93 (by decide) ?_
  refine aw_callV dX0_writeHeader_96 (at_row ho) cvX0_218 rfl (kF_X1_addLow4 m0 sh (va_up rr r x) ww o s89 so sc pl qo pn bm tg px fa hb _ ho 2835 (fon_ne hE hF)) rfl (Nat.le_of_ble_eq_true rfl) (by decide) (by decide) (by decide) (by decide) (fun _ _ _ hf => False.elim hf) (fun r96 h96 n96 hp96 => ?_)
  obtain ⟨z96, s96, e96, rfl, rfl, rfl⟩ := hp96
  replace hE := fon_ok e96 hE
  refine aw_aload_n dX0_writeHeader_99 rfl ?_
  refine aw_sipush (v := 2835) dX0_writeHeader_100 (by decide) ?_
  refine aw_callV dX0_writeHeader_103 (at_row ho) cvX0_218 rfl (kF_X1_addLow4 m0 sh (va_up rr r x) ww o s96 so sc pl qo pn bm tg px fa hb _ ho 2835 (fon_ne hE hF)) rfl (Nat.le_of_ble_eq_true rfl) (by decide) (by decide) (by decide) (by decide) (fun _ _ _ hf => False.elim hf) (fun r103 h103 n103 hp103 => ?_)
  obtain ⟨z103, s103, e103, rfl, rfl, rfl⟩ := hp103
  replace hE := fon_ok e103 hE
  refine aw_aload_n dX0_writeHeader_106 rfl ?_
  refine aw_iload_n dX0_writeHeader_107 rfl ?_
  refine aw_callV dX0_writeHeader_108 (at_row ho) cvX0_218 rfl (kF_X1_addLow4 m0 sh (va_up rr r x) ww o s103 so sc pl qo pn bm tg px fa hb _ ho v2 (fon_ne hE hF)) rfl (Nat.le_of_ble_eq_true rfl) (by decide) (by decide) (by decide) (by decide) (fun _ _ _ hf => False.elim hf) (fun r108 h108 n108 hp108 => ?_)
  obtain ⟨z108, s108, e108, rfl, rfl, rfl⟩ := hp108
  replace hE := fon_ok e108 hE
  refine aw_aload_n dX0_writeHeader_111 rfl ?_
  refine aw_iconst (v := 0) dX0_writeHeader_112 (by decide) ?_
  refine aw_callV dX0_writeHeader_113 (at_row ho) cvX0_218 rfl (kF_X1_addLow4 m0 sh (va_up rr r x) ww o s108 so sc pl qo pn bm tg px fa hb _ ho 0 (fon_ne hE hF)) rfl (Nat.le_of_ble_eq_true rfl) (by decide) (by decide) (by decide) (by decide) (fun _ _ _ hf => False.elim hf) (fun r113 h113 n113 hp113 => ?_)
  obtain ⟨z113, s113, e113, rfl, rfl, rfl⟩ := hp113
  replace hE := fon_ok e113 hE
  exact aw_vret dX0_writeHeader_116 rfl (Nat.zero_le _) (Nat.zero_le _) (Nat.zero_le _) (Nat.zero_le _) ⟨_, _, hE.symm, rfl, rfl, rfl⟩
def F_X0_writeHeader_69 (x : Ras)  (v1 : Int32) (v2 : Int32) (t0 : Int32) (y : Row) : Out Row Unit := fon (F_X1_addLow2 t0 y) (fun z69 s69 => if v1 = 9 then (F_X0_writeHeader_84 x v2 (1 : Int32) s69) else (F_X0_writeHeader_84 x v2 (0 : Int32) s69)) (fun _ _ => fno)
set_option maxHeartbeats 1000000 in
set_option maxRecDepth 100000 in
theorem b_X0_writeHeader_69 (m0 : Mnt) (sh : Nat → Nat) (rr : Nat → Ras) (r : Nat) (x : Ras) (ww : Nat → Row) (o : Nat) (so : Nat) (sc : Src) (pl : Pal) (qo : Qoi) (pn : Pnm) (bm : Bmp) (tg : Tga) (px : Pcx) (fa : A) (hb : aH) (n : Nat) (hr : isR r) (ho : isW o)  : Q_X0_writeHeader_69 m0 sh rr r x ww o so sc pl qo pn bm tg px fa hb n (F_X0_writeHeader_69 x) := by
  intro v1 v2 t0 y res hE hF
  unfold F_X0_writeHeader_69 at hE
  refine aw_callV dX0_writeHeader_69 (at_row ho) cvX0_221 rfl (kF_X1_addLow2 m0 sh (va_up rr r x) ww o y so sc pl qo pn bm tg px fa hb _ ho t0 (fon_ne hE hF)) rfl (Nat.le_of_ble_eq_true rfl) (by decide) (by decide) (by decide) (by decide) (fun _ _ _ hf => False.elim hf) (fun r69 h69 n69 hp69 => ?_)
  obtain ⟨z69, s69, e69, rfl, rfl, rfl⟩ := hp69
  replace hE := fon_ok e69 hE
  refine aw_aload_n dX0_writeHeader_72 rfl ?_
  refine aw_iload_n dX0_writeHeader_73 rfl ?_
  refine aw_bipush (v := 9) dX0_writeHeader_74 (by decide) ?_
  refine aw_icmp_ne (tgt := 83) dX0_writeHeader_76 (by decide) (fun c76 => ?_) (fun c76 => ?_)
  · replace hE := fif hE c76
    refine aw_iconst (v := 0) dX0_writeHeader_83 (by decide) ?_
    exact aw_lv _ (List.forall_mem_cons.mpr ⟨rfl, (List.forall_mem_cons.mpr ⟨rfl, fun _ h => absurd h List.not_mem_nil⟩)⟩) (b_X0_writeHeader_84 m0 sh rr r x ww o so sc pl qo pn bm tg px fa hb n hr ho  v2 (0 : Int32) s69 _ hE hF)
  · replace hE := fit hE c76
    refine aw_iconst (v := 1) dX0_writeHeader_79 (by decide) ?_
    refine aw_goto (tgt := 84) dX0_writeHeader_80 (by decide) ?_
    exact aw_lv _ (List.forall_mem_cons.mpr ⟨rfl, (List.forall_mem_cons.mpr ⟨rfl, fun _ h => absurd h List.not_mem_nil⟩)⟩) (b_X0_writeHeader_84 m0 sh rr r x ww o so sc pl qo pn bm tg px fa hb n hr ho  v2 (1 : Int32) s69 _ hE hF)
def F_X0_writeHeader (a1 : Int32) (a2 : Int32) (x : Ras) (y : Row) : Out Row Unit := fon (F_X1_add 66 y) (fun z3 s3 => fon (F_X1_add 77 s3) (fun z9 s9 => fon (F_X1_addZeros 8 s9) (fun z15 s15 => fon (F_X1_addLow4 (54 + (4 * a2)) s15) (fun z25 s25 => fon (F_X1_addLow4 40 s25) (fun z31 s31 => fon (F_X1_addLow4 (x_w x) s31) (fun z39 s39 => fon (F_X1_addLow4 (x_g x) s39) (fun z47 s47 => fon (F_X1_addLow2 1 s47) (fun z52 s52 => if a1 = 7 then (F_X0_writeHeader_69 x a1 a2 (24 : Int32) s52) else (F_X0_writeHeader_69 x a1 a2 (8 : Int32) s52)) (fun _ _ => fno)) (fun _ _ => fno)) (fun _ _ => fno)) (fun _ _ => fno)) (fun _ _ => fno)) (fun _ _ => fno)) (fun _ _ => fno)) (fun _ _ => fno)
set_option maxHeartbeats 1000000 in
set_option maxRecDepth 100000 in
theorem kF_X0_writeHeader (m0 : Mnt) (sh : Nat → Nat) (rr : Nat → Ras) (r : Nat) (x : Ras) (ww : Nat → Row) (o : Nat) (y : Row) (so : Nat) (sc : Src) (pl : Pal) (qo : Qoi) (pn : Pnm) (bm : Bmp) (tg : Tga) (px : Pcx) (fa : A) (hb : aH) (n : Nat) (hr : isR r) (ho : isW o) (a1 : Int32) (a2 : Int32) (hF : F_X0_writeHeader a1 a2 x y ≠ fno) : AM mX0_writeHeader 4 [.ref r, .int a1, .int a2, .ref o] (HC m0 sh (va_up rr r x) (va_up ww o y) so sc pl qo pn bm tg px fa hb) n 0 0 0 0 (P_X0_writeHeader m0 sh rr r x ww o so sc pl qo pn bm tg px fa hb n (F_X0_writeHeader a1 a2 x y)) (fun _ _ _ => False) := by
  generalize hE : F_X0_writeHeader a1 a2 x y = res at hF ⊢
  refine aw_of (by decide +kernel) rfl (Nat.le_of_ble_eq_true rfl) ?_
  unfold F_X0_writeHeader at hE
  refine aw_aload_n dX0_writeHeader_0 rfl ?_
  refine aw_bipush (v := 66) dX0_writeHeader_1 (by decide) ?_
  refine aw_callV dX0_writeHeader_3 (at_row ho) cvX0_198 rfl (kF_X1_add m0 sh (va_up rr r x) ww o y so sc pl qo pn bm tg px fa hb _ ho 66 (fon_ne hE hF)) rfl (Nat.le_of_ble_eq_true rfl) (by decide) (by decide) (by decide) (by decide) (fun _ _ _ hf => False.elim hf) (fun r3 h3 n3 hp3 => ?_)
  obtain ⟨z3, s3, e3, rfl, rfl, rfl⟩ := hp3
  replace hE := fon_ok e3 hE
  refine aw_aload_n dX0_writeHeader_6 rfl ?_
  refine aw_bipush (v := 77) dX0_writeHeader_7 (by decide) ?_
  refine aw_callV dX0_writeHeader_9 (at_row ho) cvX0_198 rfl (kF_X1_add m0 sh (va_up rr r x) ww o s3 so sc pl qo pn bm tg px fa hb _ ho 77 (fon_ne hE hF)) rfl (Nat.le_of_ble_eq_true rfl) (by decide) (by decide) (by decide) (by decide) (fun _ _ _ hf => False.elim hf) (fun r9 h9 n9 hp9 => ?_)
  obtain ⟨z9, s9, e9, rfl, rfl, rfl⟩ := hp9
  replace hE := fon_ok e9 hE
  refine aw_aload_n dX0_writeHeader_12 rfl ?_
  refine aw_bipush (v := 8) dX0_writeHeader_13 (by decide) ?_
  refine aw_callV dX0_writeHeader_15 (at_row ho) cvX0_215 rfl (kF_X1_addZeros m0 sh (va_up rr r x) ww o s9 so sc pl qo pn bm tg px fa hb _ ho 8 (fon_ne hE hF)) rfl (Nat.le_of_ble_eq_true rfl) (by decide) (by decide) (by decide) (by decide) (fun _ _ _ hf => False.elim hf) (fun r15 h15 n15 hp15 => ?_)
  obtain ⟨z15, s15, e15, rfl, rfl, rfl⟩ := hp15
  replace hE := fon_ok e15 hE
  refine aw_aload_n dX0_writeHeader_18 rfl ?_
  refine aw_bipush (v := 54) dX0_writeHeader_19 (by decide) ?_
  refine aw_iconst (v := 4) dX0_writeHeader_21 (by decide) ?_
  refine aw_iload_n dX0_writeHeader_22 rfl ?_
  refine aw_imul dX0_writeHeader_23 ?_
  refine aw_iadd dX0_writeHeader_24 ?_
  refine aw_callV dX0_writeHeader_25 (at_row ho) cvX0_218 rfl (kF_X1_addLow4 m0 sh (va_up rr r x) ww o s15 so sc pl qo pn bm tg px fa hb _ ho (54 + (4 * a2)) (fon_ne hE hF)) rfl (Nat.le_of_ble_eq_true rfl) (by decide) (by decide) (by decide) (by decide) (fun _ _ _ hf => False.elim hf) (fun r25 h25 n25 hp25 => ?_)
  obtain ⟨z25, s25, e25, rfl, rfl, rfl⟩ := hp25
  replace hE := fon_ok e25 hE
  refine aw_aload_n dX0_writeHeader_28 rfl ?_
  refine aw_bipush (v := 40) dX0_writeHeader_29 (by decide) ?_
  refine aw_callV dX0_writeHeader_31 (at_row ho) cvX0_218 rfl (kF_X1_addLow4 m0 sh (va_up rr r x) ww o s25 so sc pl qo pn bm tg px fa hb _ ho 40 (fon_ne hE hF)) rfl (Nat.le_of_ble_eq_true rfl) (by decide) (by decide) (by decide) (by decide) (fun _ _ _ hf => False.elim hf) (fun r31 h31 n31 hp31 => ?_)
  obtain ⟨z31, s31, e31, rfl, rfl, rfl⟩ := hp31
  replace hE := fon_ok e31 hE
  refine aw_aload_n dX0_writeHeader_34 rfl ?_
  refine aw_aload_n dX0_writeHeader_35 rfl ?_
  refine aw_getf (v := .int (x_w x)) dX0_writeHeader_36 flX0_119_6 (at_ras hr) rfl ?_
  refine aw_callV dX0_writeHeader_39 (at_row ho) cvX0_218 rfl (kF_X1_addLow4 m0 sh (va_up rr r x) ww o s31 so sc pl qo pn bm tg px fa hb _ ho (x_w x) (fon_ne hE hF)) rfl (Nat.le_of_ble_eq_true rfl) (by decide) (by decide) (by decide) (by decide) (fun _ _ _ hf => False.elim hf) (fun r39 h39 n39 hp39 => ?_)
  obtain ⟨z39, s39, e39, rfl, rfl, rfl⟩ := hp39
  replace hE := fon_ok e39 hE
  refine aw_aload_n dX0_writeHeader_42 rfl ?_
  refine aw_aload_n dX0_writeHeader_43 rfl ?_
  refine aw_getf (v := .int (x_g x)) dX0_writeHeader_44 flX0_124_6 (at_ras hr) rfl ?_
  refine aw_callV dX0_writeHeader_47 (at_row ho) cvX0_218 rfl (kF_X1_addLow4 m0 sh (va_up rr r x) ww o s39 so sc pl qo pn bm tg px fa hb _ ho (x_g x) (fon_ne hE hF)) rfl (Nat.le_of_ble_eq_true rfl) (by decide) (by decide) (by decide) (by decide) (fun _ _ _ hf => False.elim hf) (fun r47 h47 n47 hp47 => ?_)
  obtain ⟨z47, s47, e47, rfl, rfl, rfl⟩ := hp47
  replace hE := fon_ok e47 hE
  refine aw_aload_n dX0_writeHeader_50 rfl ?_
  refine aw_iconst (v := 1) dX0_writeHeader_51 (by decide) ?_
  refine aw_callV dX0_writeHeader_52 (at_row ho) cvX0_221 rfl (kF_X1_addLow2 m0 sh (va_up rr r x) ww o s47 so sc pl qo pn bm tg px fa hb _ ho 1 (fon_ne hE hF)) rfl (Nat.le_of_ble_eq_true rfl) (by decide) (by decide) (by decide) (by decide) (fun _ _ _ hf => False.elim hf) (fun r52 h52 n52 hp52 => ?_)
  obtain ⟨z52, s52, e52, rfl, rfl, rfl⟩ := hp52
  replace hE := fon_ok e52 hE
  refine aw_aload_n dX0_writeHeader_55 rfl ?_
  refine aw_iload_n dX0_writeHeader_56 rfl ?_
  refine aw_bipush (v := 7) dX0_writeHeader_57 (by decide) ?_
  refine aw_icmp_ne (tgt := 67) dX0_writeHeader_59 (by decide) (fun c59 => ?_) (fun c59 => ?_)
  · replace hE := fif hE c59
    refine aw_bipush (v := 8) dX0_writeHeader_67 (by decide) ?_
    exact aw_lv _ (List.forall_mem_cons.mpr ⟨rfl, (List.forall_mem_cons.mpr ⟨rfl, (List.forall_mem_cons.mpr ⟨rfl, fun _ h => absurd h List.not_mem_nil⟩)⟩)⟩) (b_X0_writeHeader_69 m0 sh rr r x ww o so sc pl qo pn bm tg px fa hb n hr ho  a1 a2 (8 : Int32) s52 _ hE hF)
  · replace hE := fit hE c59
    refine aw_bipush (v := 24) dX0_writeHeader_62 (by decide) ?_
    refine aw_goto (tgt := 69) dX0_writeHeader_64 (by decide) ?_
    exact aw_lv _ (List.forall_mem_cons.mpr ⟨rfl, (List.forall_mem_cons.mpr ⟨rfl, (List.forall_mem_cons.mpr ⟨rfl, fun _ h => absurd h List.not_mem_nil⟩)⟩)⟩) (b_X0_writeHeader_69 m0 sh rr r x ww o so sc pl qo pn bm tg px fa hb n hr ho  a1 a2 (24 : Int32) s52 _ hE hF)
def P_X4_encode (m0 : Mnt) (sh : Nat → Nat) (rr : Nat → Ras) (r : Nat) (x : Ras) (ww : Nat → Row) (o : Nat) (so : Nat) (sc : Src) (qo : Qoi) (pn : Pnm) (bm : Bmp) (tg : Tga) (px : Pcx) (fa : A) (hb : aH) (n : Nat) (res : Out (Row × Pal) Unit) : Option Value → aH → Nat → Prop := fun r1 h2 n2 => ∃ (a : Unit) (s : (Row × Pal)), res = fok a s ∧ r1 = none ∧ h2 = HC m0 sh (va_up rr r x) (va_up ww o s.1) so sc s.2 qo pn bm tg px fa hb ∧ n = n2
abbrev Q_X4_encode_11 (m0 : Mnt) (sh : Nat → Nat) (rr : Nat → Ras) (r : Nat) (x : Ras) (ww : Nat → Row) (o : Nat) (so : Nat) (sc : Src) (qo : Qoi) (pn : Pnm) (bm : Bmp) (tg : Tga) (px : Pcx) (fa : A) (hb : aH) (n : Nat) (k : Int32 → Row → Pal → Out (Row × Pal) Unit) : Prop := ∀ (t0 : Int32) (y : Row) (pl : Pal) (res : Out (Row × Pal) Unit), k t0 y pl = res → res ≠ fno → AW (fun _ _ => True) mX4_encode (rmD 5 0 0) 0 0 (P_X4_encode m0 sh rr r x ww o so sc qo pn bm tg px fa hb n res) (fun _ _ _ => False) 0 0 11 [(0, .ref 28), (1, .ref r), (3, .ref o)] [.int t0] (HC m0 sh (va_up rr r x) (va_up ww o y) so sc pl qo pn bm tg px fa hb) n
abbrev Q_X4_encode_38 (m0 : Mnt) (sh : Nat → Nat) (rr : Nat → Ras) (r : Nat) (x : Ras) (ww : Nat → Row) (o : Nat) (so : Nat) (sc : Src) (qo : Qoi) (pn : Pnm) (bm : Bmp) (tg : Tga) (px : Pcx) (fa : A) (hb : aH) (n : Nat) (k : Int32 → Int32 → Row → Pal → Out (Row × Pal) Unit) : Prop := ∀ (v4 : Int32) (v5 : Int32) (y : Row) (pl : Pal) (res : Out (Row × Pal) Unit), k v4 v5 y pl = res → res ≠ fno → AW (fun _ _ => True) mX4_encode (rmD 5 0 0) 0 0 (P_X4_encode m0 sh rr r x ww o so sc qo pn bm tg px fa hb n res) (fun _ _ _ => False) 0 0 38 [(0, .ref 28), (1, .ref r), (3, .ref o), (4, .int v4), (5, .int v5)] [] (HC m0 sh (va_up rr r x) (va_up ww o y) so sc pl qo pn bm tg px fa hb) n
abbrev Q_X4_encode_50 (m0 : Mnt) (sh : Nat → Nat) (rr : Nat → Ras) (r : Nat) (x : Ras) (ww : Nat → Row) (o : Nat) (so : Nat) (sc : Src) (qo : Qoi) (pn : Pnm) (bm : Bmp) (tg : Tga) (px : Pcx) (fa : A) (hb : aH) (n : Nat) (k : Int32 → Int32 → Int32 → Row → Pal → Out (Row × Pal) Unit) : Prop := ∀ (v4 : Int32) (v5 : Int32) (v6 : Int32) (y : Row) (pl : Pal) (res : Out (Row × Pal) Unit), k v4 v5 v6 y pl = res → res ≠ fno → AW (fun _ _ => True) mX4_encode (rmD 5 0 0) 0 0 (P_X4_encode m0 sh rr r x ww o so sc qo pn bm tg px fa hb n res) (fun _ _ _ => False) 0 0 50 [(0, .ref 28), (1, .ref r), (3, .ref o), (4, .int v4), (5, .int v5), (6, .int v6)] [] (HC m0 sh (va_up rr r x) (va_up ww o y) so sc pl qo pn bm tg px fa hb) n
abbrev Q_X4_encode_62 (m0 : Mnt) (sh : Nat → Nat) (rr : Nat → Ras) (r : Nat) (x : Ras) (ww : Nat → Row) (o : Nat) (so : Nat) (sc : Src) (qo : Qoi) (pn : Pnm) (bm : Bmp) (tg : Tga) (px : Pcx) (fa : A) (hb : aH) (n : Nat) (k : Int32 → Int32 → Int32 → Int32 → Row → Pal → Out (Row × Pal) Unit) : Prop := ∀ (v4 : Int32) (v5 : Int32) (v6 : Int32) (v7 : Int32) (y : Row) (pl : Pal) (res : Out (Row × Pal) Unit), k v4 v5 v6 v7 y pl = res → res ≠ fno → AW (fun _ _ => True) mX4_encode (rmD 5 0 0) 0 0 (P_X4_encode m0 sh rr r x ww o so sc qo pn bm tg px fa hb n res) (fun _ _ _ => False) 0 0 62 [(0, .ref 28), (1, .ref r), (3, .ref o), (4, .int v4), (5, .int v5), (6, .int v6), (7, .int v7)] [] (HC m0 sh (va_up rr r x) (va_up ww o y) so sc pl qo pn bm tg px fa hb) n
abbrev Q_X4_encode_85 (m0 : Mnt) (sh : Nat → Nat) (rr : Nat → Ras) (r : Nat) (x : Ras) (ww : Nat → Row) (o : Nat) (so : Nat) (sc : Src) (qo : Qoi) (pn : Pnm) (bm : Bmp) (tg : Tga) (px : Pcx) (fa : A) (hb : aH) (n : Nat) (k : Int32 → Int32 → Int32 → Int32 → Int32 → Int32 → Row → Pal → Out (Row × Pal) Unit) : Prop := ∀ (v4 : Int32) (v5 : Int32) (v6 : Int32) (v7 : Int32) (t0 : Int32) (t1 : Int32) (y : Row) (pl : Pal) (res : Out (Row × Pal) Unit), k v4 v5 v6 v7 t0 t1 y pl = res → res ≠ fno → AW (fun _ _ => True) mX4_encode (rmD 5 0 0) 0 0 (P_X4_encode m0 sh rr r x ww o so sc qo pn bm tg px fa hb n res) (fun _ _ _ => False) 0 0 85 [(0, .ref 28), (1, .ref r), (3, .ref o), (4, .int v4), (5, .int v5), (6, .int v6), (7, .int v7)] [.int t0, .int t1, .ref r, .ref 28] (HC m0 sh (va_up rr r x) (va_up ww o y) so sc pl qo pn bm tg px fa hb) n
def F_X4_encode_85 (x : Ras) (k50 : Int32 → Int32 → Int32 → Row → Pal → Out (Row × Pal) Unit) (k62 : Int32 → Int32 → Int32 → Int32 → Row → Pal → Out (Row × Pal) Unit) (v4 : Int32) (v5 : Int32) (v6 : Int32) (v7 : Int32) (t0 : Int32) (t1 : Int32) (y : Row) (pl : Pal) : Out (Row × Pal) Unit := fon (F_X4_writeLine t1 t0 v5 x y pl) (fun z88 s88 => k62 v4 v5 v6 (v7 + 1) s88 pl) (fun _ _ => fno)
set_option maxHeartbeats 1000000 in
set_option maxRecDepth 100000 in
theorem b_X4_encode_85 (m0 : Mnt) (sh : Nat → Nat) (rr : Nat → Ras) (r : Nat) (x : Ras) (ww : Nat → Row) (o : Nat) (so : Nat) (sc : Src) (qo : Qoi) (pn : Pnm) (bm : Bmp) (tg : Tga) (px : Pcx) (fa : A) (hb : aH) (n : Nat) (hr : isR r) (ho : isW o) (k50 : Int32 → Int32 → Int32 → Row → Pal → Out (Row × Pal) Unit) (hk50 : Q_X4_encode_50 m0 sh rr r x ww o so sc qo pn bm tg px fa hb n k50) (k62 : Int32 → Int32 → Int32 → Int32 → Row → Pal → Out (Row × Pal) Unit) (hk62 : Q_X4_encode_62 m0 sh rr r x ww o so sc qo pn bm tg px fa hb n k62) : Q_X4_encode_85 m0 sh rr r x ww o so sc qo pn bm tg px fa hb n (F_X4_encode_85 x k50 k62) := by
  intro v4 v5 v6 v7 t0 t1 y pl res hE hF
  unfold F_X4_encode_85 at hE
  refine aw_iload dX4_encode_85 rfl ?_
  refine aw_aload_n dX4_encode_87 rfl ?_
  refine aw_callV dX4_encode_88 at_pcx cvX4_147 rfl (kF_X4_writeLine m0 sh rr r x ww o y so sc pl qo pn bm tg px fa hb _ hr ho t1 t0 v5 (fon_ne hE hF)) rfl (Nat.le_of_ble_eq_true rfl) (by decide) (by decide) (by decide) (by decide) (fun _ _ _ hf => False.elim hf) (fun r88 h88 n88 hp88 => ?_)
  obtain ⟨z88, s88, e88, rfl, rfl, rfl⟩ := hp88
  replace hE := fon_ok e88 hE
  refine aw_iinc (v := (v7 + 1)) (lv2 := [(7, _), (0, _), (1, _), (3, _), (4, _), (5, _), (6, _)]) dX4_encode_91 rfl (incE (by decide)) (by decide) rfl ?_
  refine aw_goto (tgt := 62) dX4_encode_94 (by decide) ?_
  exact aw_lv _ (List.forall_mem_cons.mpr ⟨rfl, (List.forall_mem_cons.mpr ⟨rfl, (List.forall_mem_cons.mpr ⟨rfl, (List.forall_mem_cons.mpr ⟨rfl, (List.forall_mem_cons.mpr ⟨rfl, (List.forall_mem_cons.mpr ⟨rfl, (List.forall_mem_cons.mpr ⟨rfl, fun _ h => absurd h List.not_mem_nil⟩)⟩)⟩)⟩)⟩)⟩)⟩) (hk62 v4 v5 v6 (v7 + 1) s88 pl _ hE hF)
def F_X4_encode_62 (x : Ras) (k50 : Int32 → Int32 → Int32 → Row → Pal → Out (Row × Pal) Unit) (k62 : Int32 → Int32 → Int32 → Int32 → Row → Pal → Out (Row × Pal) Unit) (v4 : Int32) (v5 : Int32) (v6 : Int32) (v7 : Int32) (y : Row) (pl : Pal) : Out (Row × Pal) Unit := if v4 ≤ v7 then (k50 v4 v5 (v6 + 1) y pl) else (if v4 = 1 then (F_X4_encode_85 x k50 k62 v4 v5 v6 v7 (-1 : Int32) v6 y pl) else (F_X4_encode_85 x k50 k62 v4 v5 v6 v7 v7 v6 y pl))
set_option maxHeartbeats 1000000 in
set_option maxRecDepth 100000 in
theorem b_X4_encode_62 (m0 : Mnt) (sh : Nat → Nat) (rr : Nat → Ras) (r : Nat) (x : Ras) (ww : Nat → Row) (o : Nat) (so : Nat) (sc : Src) (qo : Qoi) (pn : Pnm) (bm : Bmp) (tg : Tga) (px : Pcx) (fa : A) (hb : aH) (n : Nat) (hr : isR r) (ho : isW o) (k50 : Int32 → Int32 → Int32 → Row → Pal → Out (Row × Pal) Unit) (hk50 : Q_X4_encode_50 m0 sh rr r x ww o so sc qo pn bm tg px fa hb n k50) (k62 : Int32 → Int32 → Int32 → Int32 → Row → Pal → Out (Row × Pal) Unit) (hk62 : Q_X4_encode_62 m0 sh rr r x ww o so sc qo pn bm tg px fa hb n k62) : Q_X4_encode_62 m0 sh rr r x ww o so sc qo pn bm tg px fa hb n (F_X4_encode_62 x k50 k62) := by
  intro v4 v5 v6 v7 y pl res hE hF
  unfold F_X4_encode_62 at hE
  refine aw_iload dX4_encode_62 rfl ?_
  refine aw_iload dX4_encode_64 rfl ?_
  refine aw_icmp_ge (tgt := 97) dX4_encode_66 (by decide) (fun c66 => ?_) (fun c66 => ?_)
  · replace hE := fit hE c66
    refine aw_iinc (v := (v6 + 1)) (lv2 := [(6, _), (0, _), (1, _), (3, _), (4, _), (5, _), (7, _)]) dX4_encode_97 rfl (incE (by decide)) (by decide) rfl ?_
    refine aw_goto (tgt := 50) dX4_encode_100 (by decide) ?_
    exact aw_lv _ (List.forall_mem_cons.mpr ⟨rfl, (List.forall_mem_cons.mpr ⟨rfl, (List.forall_mem_cons.mpr ⟨rfl, (List.forall_mem_cons.mpr ⟨rfl, (List.forall_mem_cons.mpr ⟨rfl, (List.forall_mem_cons.mpr ⟨rfl, fun _ h => absurd h List.not_mem_nil⟩)⟩)⟩)⟩)⟩)⟩) (hk50 v4 v5 (v6 + 1) y pl _ hE hF)
  · replace hE := fif hE c66
    refine aw_aload_n dX4_encode_69 rfl ?_
    refine aw_aload_n dX4_encode_70 rfl ?_
    refine aw_iload dX4_encode_71 rfl ?_
    refine aw_iload dX4_encode_73 rfl ?_
    refine aw_iconst (v := 1) dX4_encode_75 (by decide) ?_
    refine aw_icmp_ne (tgt := 83) dX4_encode_76 (by decide) (fun c76 => ?_) (fun c76 => ?_)
    · replace hE := fif hE c76
      refine aw_iload dX4_encode_83 rfl ?_
      exact aw_lv _ (List.forall_mem_cons.mpr ⟨rfl, (List.forall_mem_cons.mpr ⟨rfl, (List.forall_mem_cons.mpr ⟨rfl, (List.forall_mem_cons.mpr ⟨rfl, (List.forall_mem_cons.mpr ⟨rfl, (List.forall_mem_cons.mpr ⟨rfl, (List.forall_mem_cons.mpr ⟨rfl, fun _ h => absurd h List.not_mem_nil⟩)⟩)⟩)⟩)⟩)⟩)⟩) (b_X4_encode_85 m0 sh rr r x ww o so sc qo pn bm tg px fa hb n hr ho k50 hk50 k62 hk62 v4 v5 v6 v7 v7 v6 y pl _ hE hF)
    · replace hE := fit hE c76
      refine aw_iconst (v := (-1)) dX4_encode_79 (by decide) ?_
      refine aw_goto (tgt := 85) dX4_encode_80 (by decide) ?_
      exact aw_lv _ (List.forall_mem_cons.mpr ⟨rfl, (List.forall_mem_cons.mpr ⟨rfl, (List.forall_mem_cons.mpr ⟨rfl, (List.forall_mem_cons.mpr ⟨rfl, (List.forall_mem_cons.mpr ⟨rfl, (List.forall_mem_cons.mpr ⟨rfl, (List.forall_mem_cons.mpr ⟨rfl, fun _ h => absurd h List.not_mem_nil⟩)⟩)⟩)⟩)⟩)⟩)⟩) (b_X4_encode_85 m0 sh rr r x ww o so sc qo pn bm tg px fa hb n hr ho k50 hk50 k62 hk62 v4 v5 v6 v7 (-1 : Int32) v6 y pl _ hE hF)
def F_X4_encode_50 (x : Ras) (k50 : Int32 → Int32 → Int32 → Row → Pal → Out (Row × Pal) Unit) (v4 : Int32) (v5 : Int32) (v6 : Int32) (y : Row) (pl : Pal) : Out (Row × Pal) Unit := if (x_g x) ≤ v6 then (if v4 = 1 then (fon (F_X4_writeTable y pl) (fun z111 s111 => fok () (s111, pl)) (fun _ _ => fno)) else (fok () (y, pl))) else (lp (fun _ _ _ _ _ _ => fno) (F_X4_encode_62 x k50) FU v4 v5 v6 (0 : Int32) y pl)
set_option maxHeartbeats 1000000 in
set_option maxRecDepth 100000 in
theorem b_X4_encode_50 (m0 : Mnt) (sh : Nat → Nat) (rr : Nat → Ras) (r : Nat) (x : Ras) (ww : Nat → Row) (o : Nat) (so : Nat) (sc : Src) (qo : Qoi) (pn : Pnm) (bm : Bmp) (tg : Tga) (px : Pcx) (fa : A) (hb : aH) (n : Nat) (hr : isR r) (ho : isW o) (k50 : Int32 → Int32 → Int32 → Row → Pal → Out (Row × Pal) Unit) (hk50 : Q_X4_encode_50 m0 sh rr r x ww o so sc qo pn bm tg px fa hb n k50) : Q_X4_encode_50 m0 sh rr r x ww o so sc qo pn bm tg px fa hb n (F_X4_encode_50 x k50) := by
  intro v4 v5 v6 y pl res hE hF
  unfold F_X4_encode_50 at hE
  refine aw_iload dX4_encode_50 rfl ?_
  refine aw_aload_n dX4_encode_52 rfl ?_
  refine aw_getf (v := .int (x_g x)) dX4_encode_53 flX4_58_6 (at_ras hr) rfl ?_
  refine aw_icmp_ge (tgt := 103) dX4_encode_56 (by decide) (fun c56 => ?_) (fun c56 => ?_)
  · replace hE := fit hE c56
    refine aw_iload dX4_encode_103 rfl ?_
    refine aw_iconst (v := 1) dX4_encode_105 (by decide) ?_
    refine aw_icmp_ne (tgt := 114) dX4_encode_106 (by decide) (fun c106 => ?_) (fun c106 => ?_)
    · replace hE := fif hE c106
      exact aw_vret dX4_encode_114 rfl (Nat.zero_le _) (Nat.zero_le _) (Nat.zero_le _) (Nat.zero_le _) ⟨_, _, hE.symm, rfl, rfl, rfl⟩
    · replace hE := fit hE c106
      refine aw_aload_n dX4_encode_109 rfl ?_
      refine aw_aload_n dX4_encode_110 rfl ?_
      refine aw_callV dX4_encode_111 at_pcx cvX4_151 rfl (kF_X4_writeTable m0 sh (va_up rr r x) ww o y so sc pl qo pn bm tg px fa hb _ ho  (fon_ne hE hF)) rfl (Nat.le_of_ble_eq_true rfl) (by decide) (by decide) (by decide) (by decide) (fun _ _ _ hf => False.elim hf) (fun r111 h111 n111 hp111 => ?_)
      obtain ⟨z111, s111, e111, rfl, rfl, rfl⟩ := hp111
      replace hE := fon_ok e111 hE
      exact aw_vret dX4_encode_114 rfl (Nat.zero_le _) (Nat.zero_le _) (Nat.zero_le _) (Nat.zero_le _) ⟨_, _, hE.symm, rfl, rfl, rfl⟩
  · replace hE := fif hE c56
    refine aw_iconst (v := 0) dX4_encode_59 (by decide) ?_
    refine aw_istore (lv2 := [(7, _), (0, _), (1, _), (3, _), (4, _), (5, _), (6, _)]) dX4_encode_60 (by decide) rfl ?_
    exact aw_lv _ (List.forall_mem_cons.mpr ⟨rfl, (List.forall_mem_cons.mpr ⟨rfl, (List.forall_mem_cons.mpr ⟨rfl, (List.forall_mem_cons.mpr ⟨rfl, (List.forall_mem_cons.mpr ⟨rfl, (List.forall_mem_cons.mpr ⟨rfl, (List.forall_mem_cons.mpr ⟨rfl, fun _ h => absurd h List.not_mem_nil⟩)⟩)⟩)⟩)⟩)⟩)⟩) (lp_ind (Q_X4_encode_62 m0 sh rr r x ww o so sc qo pn bm tg px fa hb n) (fun _ _ _ _ _ _ res hq hF => (hF hq.symm).elim) (fun k hk => b_X4_encode_62 m0 sh rr r x ww o so sc qo pn bm tg px fa hb n hr ho k50 hk50 k hk) FU v4 v5 v6 (0 : Int32) y pl _ hE hF)
def F_X4_encode_38 (x : Ras)  (v4 : Int32) (v5 : Int32) (y : Row) (pl : Pal) : Out (Row × Pal) Unit := fon (F_X4_writeHeader v4 v5 x y) (fun z44 s44 => lp (fun _ _ _ _ _ => fno) (F_X4_encode_50 x) FU v4 v5 (0 : Int32) s44 pl) (fun _ _ => fno)
set_option maxHeartbeats 1000000 in
set_option maxRecDepth 100000 in
theorem b_X4_encode_38 (m0 : Mnt) (sh : Nat → Nat) (rr : Nat → Ras) (r : Nat) (x : Ras) (ww : Nat → Row) (o : Nat) (so : Nat) (sc : Src) (qo : Qoi) (pn : Pnm) (bm : Bmp) (tg : Tga) (px : Pcx) (fa : A) (hb : aH) (n : Nat) (hr : isR r) (ho : isW o)  : Q_X4_encode_38 m0 sh rr r x ww o so sc qo pn bm tg px fa hb n (F_X4_encode_38 x) := by
  intro v4 v5 y pl res hE hF
  unfold F_X4_encode_38 at hE
  refine aw_aload_n dX4_encode_38 rfl ?_
  refine aw_iload dX4_encode_39 rfl ?_
  refine aw_iload dX4_encode_41 rfl ?_
  refine aw_aload_n dX4_encode_43 rfl ?_
  refine aw_callS dX4_encode_44  csX4_143 rfl (kF_X4_writeHeader m0 sh rr r x ww o y so sc pl qo pn bm tg px fa hb _ hr ho v4 v5 (fon_ne hE hF)) rfl (Nat.le_of_ble_eq_true rfl) (by decide) (by decide) (by decide) (by decide) (fun _ _ _ hf => False.elim hf) (fun r44 h44 n44 hp44 => ?_)
  obtain ⟨z44, s44, e44, rfl, rfl, rfl⟩ := hp44
  replace hE := fon_ok e44 hE
  refine aw_iconst (v := 0) dX4_encode_47 (by decide) ?_
  refine aw_istore (lv2 := [(6, _), (0, _), (1, _), (3, _), (4, _), (5, _)]) dX4_encode_48 (by decide) rfl ?_
  exact aw_lv _ (List.forall_mem_cons.mpr ⟨rfl, (List.forall_mem_cons.mpr ⟨rfl, (List.forall_mem_cons.mpr ⟨rfl, (List.forall_mem_cons.mpr ⟨rfl, (List.forall_mem_cons.mpr ⟨rfl, (List.forall_mem_cons.mpr ⟨rfl, fun _ h => absurd h List.not_mem_nil⟩)⟩)⟩)⟩)⟩)⟩) (lp_ind (Q_X4_encode_50 m0 sh rr r x ww o so sc qo pn bm tg px fa hb n) (fun _ _ _ _ _ res hq hF => (hF hq.symm).elim) (fun k hk => b_X4_encode_50 m0 sh rr r x ww o so sc qo pn bm tg px fa hb n hr ho  k hk) FU v4 v5 (0 : Int32) s44 pl _ hE hF)
def F_X4_encode_11 (x : Ras)  (t0 : Int32) (y : Row) (pl : Pal) : Out (Row × Pal) Unit := if t0 = 1 then (fon (F_X3_gather x pl) (fun z35 s35 => F_X4_encode_38 x t0 (((x_w x) + 1) &&& (-2)) y s35) (fun _ _ => fno)) else (F_X4_encode_38 x t0 (((x_w x) + 1) &&& (-2)) y pl)
set_option maxHeartbeats 1000000 in
set_option maxRecDepth 100000 in
theorem b_X4_encode_11 (m0 : Mnt) (sh : Nat → Nat) (rr : Nat → Ras) (r : Nat) (x : Ras) (ww : Nat → Row) (o : Nat) (so : Nat) (sc : Src) (qo : Qoi) (pn : Pnm) (bm : Bmp) (tg : Tga) (px : Pcx) (fa : A) (hb : aH) (n : Nat) (hr : isR r) (ho : isW o)  : Q_X4_encode_11 m0 sh rr r x ww o so sc qo pn bm tg px fa hb n (F_X4_encode_11 x) := by
  intro t0 y pl res hE hF
  unfold F_X4_encode_11 at hE
  refine aw_istore (lv2 := [(4, _), (0, _), (1, _), (3, _)]) dX4_encode_11 (by decide) rfl ?_
  refine aw_aload_n dX4_encode_13 rfl ?_
  refine aw_getf (v := .int (x_w x)) dX4_encode_14 flX4_46_6 (at_ras hr) rfl ?_
  refine aw_iconst (v := 1) dX4_encode_17 (by decide) ?_
  refine aw_iadd dX4_encode_18 ?_
  refine aw_bipush (v := (-2)) dX4_encode_19 (by decide) ?_
  refine aw_iand dX4_encode_21 ?_
  refine aw_istore (lv2 := [(5, _), (4, _), (0, _), (1, _), (3, _)]) dX4_encode_22 (by decide) rfl ?_
  refine aw_iload dX4_encode_24 rfl ?_
  refine aw_iconst (v := 1) dX4_encode_26 (by decide) ?_
  refine aw_icmp_ne (tgt := 38) dX4_encode_27 (by decide) (fun c27 => ?_) (fun c27 => ?_)
  · replace hE := fif hE c27
    exact aw_lv _ (List.forall_mem_cons.mpr ⟨rfl, (List.forall_mem_cons.mpr ⟨rfl, (List.forall_mem_cons.mpr ⟨rfl, (List.forall_mem_cons.mpr ⟨rfl, (List.forall_mem_cons.mpr ⟨rfl, fun _ h => absurd h List.not_mem_nil⟩)⟩)⟩)⟩)⟩) (b_X4_encode_38 m0 sh rr r x ww o so sc qo pn bm tg px fa hb n hr ho  t0 (((x_w x) + 1) &&& (-2)) y pl _ hE hF)
  · replace hE := fit hE c27
    refine aw_aload_n dX4_encode_30 rfl ?_
    refine aw_getf (v := .ref 17) dX4_encode_31 flX4_15_3 at_pcx rfl ?_
    refine aw_aload_n dX4_encode_34 rfl ?_
    refine aw_callV dX4_encode_35 at_pal cvX4_138 rfl (kF_X3_gather m0 sh rr r x (va_up ww o y) so sc pl qo pn bm tg px fa hb _ hr  (fon_ne hE hF)) rfl (Nat.le_of_ble_eq_true rfl) (by decide) (by decide) (by decide) (by decide) (fun _ _ _ hf => False.elim hf) (fun r35 h35 n35 hp35 => ?_)
    obtain ⟨z35, s35, e35, rfl, rfl, rfl⟩ := hp35
    replace hE := fon_ok e35 hE
    exact aw_lv _ (List.forall_mem_cons.mpr ⟨rfl, (List.forall_mem_cons.mpr ⟨rfl, (List.forall_mem_cons.mpr ⟨rfl, (List.forall_mem_cons.mpr ⟨rfl, (List.forall_mem_cons.mpr ⟨rfl, fun _ h => absurd h List.not_mem_nil⟩)⟩)⟩)⟩)⟩) (b_X4_encode_38 m0 sh rr r x ww o so sc qo pn bm tg px fa hb n hr ho  t0 (((x_w x) + 1) &&& (-2)) y s35 _ hE hF)
def F_X4_encode (a2 : Int32) (x : Ras) (y : Row) (pl : Pal) : Out (Row × Pal) Unit := if a2 = 16 then (F_X4_encode_11 x (3 : Int32) y pl) else (F_X4_encode_11 x (1 : Int32) y pl)
set_option maxHeartbeats 1000000 in
set_option maxRecDepth 100000 in
theorem kF_X4_encode (m0 : Mnt) (sh : Nat → Nat) (rr : Nat → Ras) (r : Nat) (x : Ras) (ww : Nat → Row) (o : Nat) (y : Row) (so : Nat) (sc : Src) (pl : Pal) (qo : Qoi) (pn : Pnm) (bm : Bmp) (tg : Tga) (px : Pcx) (fa : A) (hb : aH) (n : Nat) (hr : isR r) (ho : isW o) (a2 : Int32) (hF : F_X4_encode a2 x y pl ≠ fno) : AM mX4_encode 5 [.ref 28, .ref r, .int a2, .ref o] (HC m0 sh (va_up rr r x) (va_up ww o y) so sc pl qo pn bm tg px fa hb) n 0 0 0 0 (P_X4_encode m0 sh rr r x ww o so sc qo pn bm tg px fa hb n (F_X4_encode a2 x y pl)) (fun _ _ _ => False) := by
  generalize hE : F_X4_encode a2 x y pl = res at hF ⊢
  refine aw_of (by decide +kernel) rfl (Nat.le_of_ble_eq_true rfl) ?_
  unfold F_X4_encode at hE
  refine aw_iload_n dX4_encode_0 rfl ?_
  refine aw_bipush (v := 16) dX4_encode_1 (by decide) ?_
  refine aw_icmp_ne (tgt := 10) dX4_encode_3 (by decide) (fun c3 => ?_) (fun c3 => ?_)
  · replace hE := fif hE c3
    refine aw_iconst (v := 1) dX4_encode_10 (by decide) ?_
    exact aw_lv _ (List.forall_mem_cons.mpr ⟨rfl, (List.forall_mem_cons.mpr ⟨rfl, (List.forall_mem_cons.mpr ⟨rfl, fun _ h => absurd h List.not_mem_nil⟩)⟩)⟩) (b_X4_encode_11 m0 sh rr r x ww o so sc qo pn bm tg px fa hb n hr ho  (1 : Int32) y pl _ hE hF)
  · replace hE := fit hE c3
    refine aw_iconst (v := 3) dX4_encode_6 (by decide) ?_
    refine aw_goto (tgt := 11) dX4_encode_7 (by decide) ?_
    exact aw_lv _ (List.forall_mem_cons.mpr ⟨rfl, (List.forall_mem_cons.mpr ⟨rfl, (List.forall_mem_cons.mpr ⟨rfl, fun _ h => absurd h List.not_mem_nil⟩)⟩)⟩) (b_X4_encode_11 m0 sh rr r x ww o so sc qo pn bm tg px fa hb n hr ho  (3 : Int32) y pl _ hE hF)
