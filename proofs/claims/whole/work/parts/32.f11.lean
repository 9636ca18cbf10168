def P_X11_isOpaque (mo : MO) (mw : MW) (mr : MR) (ms : Nat) (mt : A) (mu : A) (dd : A) (wi : A) (hi : A) (gt : A) (sp : A) (ta : A) (li : A) (sr : A) (co : A) (hb : aH) (n : Nat) (res : Out Unit Int32) : Option Value → aH → Nat → Prop := fun r1 h2 n2 => ∃ (a : Int32) (s : Unit), res = fok a s ∧ r1 = some (.int a) ∧ h2 = HM mo mw mr ms mt mu dd wi hi gt sp ta li sr co hb ∧ n = n2
abbrev Q_X11_isOpaque_2 (mo : MO) (mw : MW) (mr : MR) (ms : Nat) (mt : A) (mu : A) (dd : A) (wi : A) (hi : A) (gt : A) (sp : A) (ta : A) (li : A) (sr : A) (co : A) (hb : aH) (n : Nat) (k : Int32 → Int32 → Out Unit Int32) : Prop := ∀ (v1 : Int32) (v2 : Int32) (res : Out Unit Int32), k v1 v2 = res → res ≠ fno → AW (fun _ _ => True) mX11_isOpaque (rmD 2 0 0) 0 0 (P_X11_isOpaque mo mw mr ms mt mu dd wi hi gt sp ta li sr co hb n res) (fun _ _ _ => False) 0 0 2 [(0, .ref 31), (1, .int v1), (2, .int v2)] [] (HM mo mw mr ms mt mu dd wi hi gt sp ta li sr co hb) n
def F_X11_isOpaque_2 (dd : A) (wi : A) (hi : A) (k2 : Int32 → Int32 → Out Unit Int32) (v1 : Int32) (v2 : Int32) : Out Unit Int32 := fon (F_X11_many v1 wi hi) (fun z5 s5 => if z5 ≤ v2 then (fok (1 : Int32) ()) else (if inb ((4096 * v1) + v2) 16384 then (if ((dd (Int32.toNatClampNeg ((4096 * v1) + v2))) &&& 255) = 255 then (k2 v1 (v2 + 1)) else (fok (0 : Int32) ())) else fno)) (fun _ _ => fno)
set_option maxHeartbeats 1000000 in
set_option maxRecDepth 100000 in
theorem b_X11_isOpaque_2 (mo : MO) (mw : MW) (mr : MR) (ms : Nat) (mt : A) (mu : A) (dd : A) (wi : A) (hi : A) (gt : A) (sp : A) (ta : A) (li : A) (sr : A) (co : A) (hb : aH) (n : Nat)  (k2 : Int32 → Int32 → Out Unit Int32) (hk2 : Q_X11_isOpaque_2 mo mw mr ms mt mu dd wi hi gt sp ta li sr co hb n k2) : Q_X11_isOpaque_2 mo mw mr ms mt mu dd wi hi gt sp ta li sr co hb n (F_X11_isOpaque_2 dd wi hi k2) := by
  intro v1 v2 res hE hF
  unfold F_X11_isOpaque_2 at hE
  refine aw_iload_n dX11_isOpaque_2 rfl ?_
  refine aw_aload_n dX11_isOpaque_3 rfl ?_
  refine aw_iload_n dX11_isOpaque_4 rfl ?_
  refine aw_callV dX11_isOpaque_5 at_mod cvX11_256 rfl (kF_X11_many mo mw mr ms mt mu dd wi hi gt sp ta li sr co hb _  v1 (fon_ne hE hF)) rfl (Nat.le_of_ble_eq_true rfl) (by decide) (by decide) (by decide) (by decide) (fun _ _ _ hf => False.elim hf) (fun r5 h5 n5 hp5 => ?_)
  obtain ⟨z5, s5, e5, rfl, rfl, rfl⟩ := hp5
  replace hE := fon_ok e5 hE
  refine aw_icmp_ge (tgt := 41) dX11_isOpaque_8 (by decide) (fun c8 => ?_) (fun c8 => ?_)
  · replace hE := fit hE c8
    refine aw_iconst (v := 1) dX11_isOpaque_41 (by decide) ?_
    exact aw_zret dX11_isOpaque_42 rfl (narB (by decide)) (Nat.zero_le _) (Nat.zero_le _) (Nat.zero_le _) (Nat.zero_le _) ⟨_, _, hE.symm, rfl, rfl, rfl⟩
  · replace hE := fif hE c8
    refine aw_aload_n dX11_isOpaque_11 rfl ?_
    refine aw_getf (v := .ref 34) dX11_isOpaque_12 flX11_17_10 at_mod rfl ?_
    refine aw_sipush (v := 4096) dX11_isOpaque_15 (by decide) ?_
    refine aw_iload_n dX11_isOpaque_18 rfl ?_
    refine aw_imul dX11_isOpaque_19 ?_
    refine aw_iload_n dX11_isOpaque_20 rfl ?_
    refine aw_iadd dX11_isOpaque_21 ?_
    obtain ⟨g22, hE⟩ := fgd hE hF
    refine aw_iald (f := dd) dX11_isOpaque_22 at_mdots (vp_in_iff.mpr g22) ?_
    refine aw_sipush (v := 255) dX11_isOpaque_23 (by decide) ?_
    refine aw_iand dX11_isOpaque_26 ?_
    refine aw_sipush (v := 255) dX11_isOpaque_27 (by decide) ?_
    refine aw_icmp_eq (tgt := 35) dX11_isOpaque_30 (by decide) (fun c30 => ?_) (fun c30 => ?_)
    · replace hE := fit hE c30
      refine aw_iinc (v := (v2 + 1)) (lv2 := [(2, _), (0, _), (1, _)]) dX11_isOpaque_35 rfl (incE (by decide)) (by decide) rfl ?_
      refine aw_goto (tgt := 2) dX11_isOpaque_38 (by decide) ?_
      exact aw_lv _ (List.forall_mem_cons.mpr ⟨rfl, (List.forall_mem_cons.mpr ⟨rfl, (List.forall_mem_cons.mpr ⟨rfl, fun _ h => absurd h List.not_mem_nil⟩)⟩)⟩) (hk2 v1 (v2 + 1) _ hE hF)
    · replace hE := fif hE c30
      refine aw_iconst (v := 0) dX11_isOpaque_33 (by decide) ?_
      exact aw_zret dX11_isOpaque_34 rfl (narB (by decide)) (Nat.zero_le _) (Nat.zero_le _) (Nat.zero_le _) (Nat.zero_le _) ⟨_, _, hE.symm, rfl, rfl, rfl⟩
def F_X11_isOpaque (a1 : Int32) (dd : A) (wi : A) (hi : A) : Out Unit Int32 := lp (fun _ _ => fno) (F_X11_isOpaque_2 dd wi hi) FU a1 (0 : Int32)
set_option maxHeartbeats 1000000 in
set_option maxRecDepth 100000 in
theorem kF_X11_isOpaque (mo : MO) (mw : MW) (mr : MR) (ms : Nat) (mt : A) (mu : A) (dd : A) (wi : A) (hi : A) (gt : A) (sp : A) (ta : A) (li : A) (sr : A) (co : A) (hb : aH) (n : Nat)  (a1 : Int32) (hF : F_X11_isOpaque a1 dd wi hi ≠ fno) : AM mX11_isOpaque 2 [.ref 31, .int a1] (HM mo mw mr ms mt mu dd wi hi gt sp ta li sr co hb) n 0 0 0 0 (P_X11_isOpaque mo mw mr ms mt mu dd wi hi gt sp ta li sr co hb n (F_X11_isOpaque a1 dd wi hi)) (fun _ _ _ => False) := by
  generalize hE : F_X11_isOpaque a1 dd wi hi = res at hF ⊢
  refine aw_of (by decide +kernel) rfl (Nat.le_of_ble_eq_true rfl) ?_
  unfold F_X11_isOpaque at hE
  refine aw_iconst (v := 0) dX11_isOpaque_0 (by decide) ?_
  refine aw_istore_n (lv2 := [(2, _), (0, _), (1, _)]) dX11_isOpaque_1 (by decide) rfl ?_
  exact aw_lv _ (List.forall_mem_cons.mpr ⟨rfl, (List.forall_mem_cons.mpr ⟨rfl, (List.forall_mem_cons.mpr ⟨rfl, fun _ h => absurd h List.not_mem_nil⟩)⟩)⟩) (lp_ind (Q_X11_isOpaque_2 mo mw mr ms mt mu dd wi hi gt sp ta li sr co hb n) (fun _ _ res hq hF => (hF hq.symm).elim) (fun k hk => b_X11_isOpaque_2 mo mw mr ms mt mu dd wi hi gt sp ta li sr co hb n   k hk) FU a1 (0 : Int32) _ hE hF)
def P_X11_isGrayRaster (mo : MO) (mw : MW) (mr : MR) (ms : Nat) (mt : A) (mu : A) (dd : A) (wi : A) (hi : A) (gt : A) (sp : A) (ta : A) (li : A) (sr : A) (co : A) (hb : aH) (n : Nat) (res : Out Unit Int32) : Option Value → aH → Nat → Prop := fun r1 h2 n2 => ∃ (a : Int32) (s : Unit), res = fok a s ∧ r1 = some (.int a) ∧ h2 = HM mo mw mr ms mt mu dd wi hi gt sp ta li sr co hb ∧ n = n2
abbrev Q_X11_isGrayRaster_2 (mo : MO) (mw : MW) (mr : MR) (ms : Nat) (mt : A) (mu : A) (dd : A) (wi : A) (hi : A) (gt : A) (sp : A) (ta : A) (li : A) (sr : A) (co : A) (hb : aH) (n : Nat) (k : Int32 → Int32 → Out Unit Int32) : Prop := ∀ (v1 : Int32) (v2 : Int32) (res : Out Unit Int32), k v1 v2 = res → res ≠ fno → AW (fun _ _ => True) mX11_isGrayRaster (rmD 2 0 0) 0 0 (P_X11_isGrayRaster mo mw mr ms mt mu dd wi hi gt sp ta li sr co hb n res) (fun _ _ _ => False) 0 0 2 [(0, .ref 31), (1, .int v1), (2, .int v2)] [] (HM mo mw mr ms mt mu dd wi hi gt sp ta li sr co hb) n
abbrev Q_X11_isGrayRaster_54 (mo : MO) (mw : MW) (mr : MR) (ms : Nat) (mt : A) (mu : A) (dd : A) (wi : A) (hi : A) (gt : A) (sp : A) (ta : A) (li : A) (sr : A) (co : A) (hb : aH) (n : Nat) (k : Out Unit Int32) : Prop := ∀  (res : Out Unit Int32), k  = res → res ≠ fno → AW (fun _ _ => True) mX11_isGrayRaster (rmD 2 0 0) 0 0 (P_X11_isGrayRaster mo mw mr ms mt mu dd wi hi gt sp ta li sr co hb n res) (fun _ _ _ => False) 0 0 54 [] [] (HM mo mw mr ms mt mu dd wi hi gt sp ta li sr co hb) n
def F_X11_isGrayRaster_54 (dd : A) (wi : A) (hi : A)   : Out Unit Int32 := fok (0 : Int32) ()
set_option maxHeartbeats 1000000 in
set_option maxRecDepth 100000 in
theorem b_X11_isGrayRaster_54 (mo : MO) (mw : MW) (mr : MR) (ms : Nat) (mt : A) (mu : A) (dd : A) (wi : A) (hi : A) (gt : A) (sp : A) (ta : A) (li : A) (sr : A) (co : A) (hb : aH) (n : Nat)   : Q_X11_isGrayRaster_54 mo mw mr ms mt mu dd wi hi gt sp ta li sr co hb n (F_X11_isGrayRaster_54 dd wi hi) := by
  intro res hE hF
  unfold F_X11_isGrayRaster_54 at hE
  refine aw_iconst (v := 0) dX11_isGrayRaster_54 (by decide) ?_
  exact aw_zret dX11_isGrayRaster_55 rfl (narB (by decide)) (Nat.zero_le _) (Nat.zero_le _) (Nat.zero_le _) (Nat.zero_le _) ⟨_, _, hE.symm, rfl, rfl, rfl⟩
def F_X11_isGrayRaster_2 (dd : A) (wi : A) (hi : A) (k2 : Int32 → Int32 → Out Unit Int32) (v1 : Int32) (v2 : Int32) : Out Unit Int32 := fon (F_X11_many v1 wi hi) (fun z5 s5 => if z5 ≤ v2 then (fok (1 : Int32) ()) else (if inb ((4096 * v1) + v2) 16384 then (if (us (dd (Int32.toNatClampNeg ((4096 * v1) + v2))) 24) = (((dd (Int32.toNatClampNeg ((4096 * v1) + v2))) >>> ((16 : Int32) &&& 31)) &&& 255) then (if (us (dd (Int32.toNatClampNeg ((4096 * v1) + v2))) 24) = (((dd (Int32.toNatClampNeg ((4096 * v1) + v2))) >>> ((8 : Int32) &&& 31)) &&& 255) then (k2 v1 (v2 + 1)) else (F_X11_isGrayRaster_54 dd wi hi )) else (F_X11_isGrayRaster_54 dd wi hi )) else fno)) (fun _ _ => fno)
set_option maxHeartbeats 1000000 in
set_option maxRecDepth 100000 in
theorem b_X11_isGrayRaster_2 (mo : MO) (mw : MW) (mr : MR) (ms : Nat) (mt : A) (mu : A) (dd : A) (wi : A) (hi : A) (gt : A) (sp : A) (ta : A) (li : A) (sr : A) (co : A) (hb : aH) (n : Nat)  (k2 : Int32 → Int32 → Out Unit Int32) (hk2 : Q_X11_isGrayRaster_2 mo mw mr ms mt mu dd wi hi gt sp ta li sr co hb n k2) : Q_X11_isGrayRaster_2 mo mw mr ms mt mu dd wi hi gt sp ta li sr co hb n (F_X11_isGrayRaster_2 dd wi hi k2) := by
  intro v1 v2 res hE hF
  unfold F_X11_isGrayRaster_2 at hE
  refine aw_iload_n dX11_isGrayRaster_2 rfl ?_
  refine aw_aload_n dX11_isGrayRaster_3 rfl ?_
  refine aw_iload_n dX11_isGrayRaster_4 rfl ?_
  refine aw_callV dX11_isGrayRaster_5 at_mod cvX11_256 rfl (kF_X11_many mo mw mr ms mt mu dd wi hi gt sp ta li sr co hb _  v1 (fon_ne hE hF)) rfl (Nat.le_of_ble_eq_true rfl) (by decide) (by decide) (by decide) (by decide) (fun _ _ _ hf => False.elim hf) (fun r5 h5 n5 hp5 => ?_)
  obtain ⟨z5, s5, e5, rfl, rfl, rfl⟩ := hp5
  replace hE := fon_ok e5 hE
  refine aw_icmp_ge (tgt := 62) dX11_isGrayRaster_8 (by decide) (fun c8 => ?_) (fun c8 => ?_)
  · replace hE := fit hE c8
    refine aw_iconst (v := 1) dX11_isGrayRaster_62 (by decide) ?_
    exact aw_zret dX11_isGrayRaster_63 rfl (narB (by decide)) (Nat.zero_le _) (Nat.zero_le _) (Nat.zero_le _) (Nat.zero_le _) ⟨_, _, hE.symm, rfl, rfl, rfl⟩
  · replace hE := fif hE c8
    refine aw_aload_n dX11_isGrayRaster_11 rfl ?_
    refine aw_getf (v := .ref 34) dX11_isGrayRaster_12 flX11_17_10 at_mod rfl ?_
    refine aw_sipush (v := 4096) dX11_isGrayRaster_15 (by decide) ?_
    refine aw_iload_n dX11_isGrayRaster_18 rfl ?_
    refine aw_imul dX11_isGrayRaster_19 ?_
    refine aw_iload_n dX11_isGrayRaster_20 rfl ?_
    refine aw_iadd dX11_isGrayRaster_21 ?_
    obtain ⟨g22, hE⟩ := fgd hE hF
    refine aw_iald (f := dd) dX11_isGrayRaster_22 at_mdots (vp_in_iff.mpr g22) ?_
    refine aw_istore_n (lv2 := [(3, _), (0, _), (1, _), (2, _)]) dX11_isGrayRaster_23 (by decide) rfl ?_
    refine aw_iload_n dX11_isGrayRaster_24 rfl ?_
    refine aw_bipush (v := 24) dX11_isGrayRaster_25 (by decide) ?_
    refine aw_iushr dX11_isGrayRaster_27 ?_
    refine aw_iload_n dX11_isGrayRaster_28 rfl ?_
    refine aw_bipush (v := 16) dX11_isGrayRaster_29 (by decide) ?_
    refine aw_ishr dX11_isGrayRaster_31 ?_
    refine aw_sipush (v := 255) dX11_isGrayRaster_32 (by decide) ?_
    refine aw_iand dX11_isGrayRaster_35 ?_
    refine aw_icmp_ne (tgt := 54) dX11_isGrayRaster_36 (by decide) (fun c36 => ?_) (fun c36 => ?_)
    · replace hE := fif hE c36
      exact aw_lv _ (fun _ h => absurd h List.not_mem_nil) (b_X11_isGrayRaster_54 mo mw mr ms mt mu dd wi hi gt sp ta li sr co hb n    _ hE hF)
    · replace hE := fit hE c36
      refine aw_iload_n dX11_isGrayRaster_39 rfl ?_
      refine aw_bipush (v := 24) dX11_isGrayRaster_40 (by decide) ?_
      refine aw_iushr dX11_isGrayRaster_42 ?_
      refine aw_iload_n dX11_isGrayRaster_43 rfl ?_
      refine aw_bipush (v := 8) dX11_isGrayRaster_44 (by decide) ?_
      refine aw_ishr dX11_isGrayRaster_46 ?_
      refine aw_sipush (v := 255) dX11_isGrayRaster_47 (by decide) ?_
      refine aw_iand dX11_isGrayRaster_50 ?_
      refine aw_icmp_eq (tgt := 56) dX11_isGrayRaster_51 (by decide) (fun c51 => ?_) (fun c51 => ?_)
      · replace hE := fit hE c51
        refine aw_iinc (v := (v2 + 1)) (lv2 := [(2, _), (3, _), (0, _), (1, _)]) dX11_isGrayRaster_56 rfl (incE (by decide)) (by decide) rfl ?_
        refine aw_goto (tgt := 2) dX11_isGrayRaster_59 (by decide) ?_
        exact aw_lv _ (List.forall_mem_cons.mpr ⟨rfl, (List.forall_mem_cons.mpr ⟨rfl, (List.forall_mem_cons.mpr ⟨rfl, fun _ h => absurd h List.not_mem_nil⟩)⟩)⟩) (hk2 v1 (v2 + 1) _ hE hF)
      · replace hE := fif hE c51
        exact aw_lv _ (fun _ h => absurd h List.not_mem_nil) (b_X11_isGrayRaster_54 mo mw mr ms mt mu dd wi hi gt sp ta li sr co hb n    _ hE hF)
def F_X11_isGrayRaster (a1 : Int32) (dd : A) (wi : A) (hi : A) : Out Unit Int32 := lp (fun _ _ => fno) (F_X11_isGrayRaster_2 dd wi hi) FU a1 (0 : Int32)
set_option maxHeartbeats 1000000 in
set_option maxRecDepth 100000 in
theorem kF_X11_isGrayRaster (mo : MO) (mw : MW) (mr : MR) (ms : Nat) (mt : A) (mu : A) (dd : A) (wi : A) (hi : A) (gt : A) (sp : A) (ta : A) (li : A) (sr : A) (co : A) (hb : aH) (n : Nat)  (a1 : Int32) (hF : F_X11_isGrayRaster a1 dd wi hi ≠ fno) : AM mX11_isGrayRaster 2 [.ref 31, .int a1] (HM mo mw mr ms mt mu dd wi hi gt sp ta li sr co hb) n 0 0 0 0 (P_X11_isGrayRaster mo mw mr ms mt mu dd wi hi gt sp ta li sr co hb n (F_X11_isGrayRaster a1 dd wi hi)) (fun _ _ _ => False) := by
  generalize hE : F_X11_isGrayRaster a1 dd wi hi = res at hF ⊢
  refine aw_of (by decide +kernel) rfl (Nat.le_of_ble_eq_true rfl) ?_
  unfold F_X11_isGrayRaster at hE
  refine aw_iconst (v := 0) dX11_isGrayRaster_0 (by decide) ?_
  refine aw_istore_n (lv2 := [(2, _), (0, _), (1, _)]) dX11_isGrayRaster_1 (by decide) rfl ?_
  exact aw_lv _ (List.forall_mem_cons.mpr ⟨rfl, (List.forall_mem_cons.mpr ⟨rfl, (List.forall_mem_cons.mpr ⟨rfl, fun _ h => absurd h List.not_mem_nil⟩)⟩)⟩) (lp_ind (Q_X11_isGrayRaster_2 mo mw mr ms mt mu dd wi hi gt sp ta li sr co hb n) (fun _ _ res hq hF => (hF hq.symm).elim) (fun k hk => b_X11_isGrayRaster_2 mo mw mr ms mt mu dd wi hi gt sp ta li sr co hb n   k hk) FU a1 (0 : Int32) _ hE hF)
def P_X11_sift (mo : MO) (mw : MW) (mr : MR) (ms : Nat) (mt : A) (mu : A) (dd : A) (wi : A) (hi : A) (gt : A) (sp : A) (ta : A) (li : A) (co : A) (hb : aH) (n : Nat) (res : Out A Unit) : Option Value → aH → Nat → Prop := fun r1 h2 n2 => ∃ (a : Unit) (s : A), res = fok a s ∧ r1 = none ∧ h2 = HM mo mw mr ms mt mu dd wi hi gt sp ta li s co hb ∧ n = n2
abbrev Q_X11_sift_13 (mo : MO) (mw : MW) (mr : MR) (ms : Nat) (mt : A) (mu : A) (dd : A) (wi : A) (hi : A) (gt : A) (sp : A) (ta : A) (li : A) (co : A) (hb : aH) (n : Nat) (k : Int32 → Int32 → Int32 → Int32 → A → Out A Unit) : Prop := ∀ (v2 : Int32) (v3 : Int32) (v4 : Int32) (v5 : Int32) (sr : A) (res : Out A Unit), k v2 v3 v4 v5 sr = res → res ≠ fno → AW (fun _ _ => True) mX11_sift (rmD 1 0 0) 0 0 (P_X11_sift mo mw mr ms mt mu dd wi hi gt sp ta li co hb n res) (fun _ _ _ => False) 0 0 13 [(0, .ref 31), (2, .int v2), (3, .int v3), (4, .int v4), (5, .int v5)] [] (HM mo mw mr ms mt mu dd wi hi gt sp ta li sr co hb) n
abbrev Q_X11_sift_64 (mo : MO) (mw : MW) (mr : MR) (ms : Nat) (mt : A) (mu : A) (dd : A) (wi : A) (hi : A) (gt : A) (sp : A) (ta : A) (li : A) (co : A) (hb : aH) (n : Nat) (k : Int32 → Int32 → Int32 → Int32 → A → Out A Unit) : Prop := ∀ (v2 : Int32) (v3 : Int32) (v4 : Int32) (v6 : Int32) (sr : A) (res : Out A Unit), k v2 v3 v4 v6 sr = res → res ≠ fno → AW (fun _ _ => True) mX11_sift (rmD 1 0 0) 0 0 (P_X11_sift mo mw mr ms mt mu dd wi hi gt sp ta li co hb n res) (fun _ _ _ => False) 0 0 64 [(0, .ref 31), (2, .int v2), (3, .int v3), (4, .int v4), (6, .int v6)] [] (HM mo mw mr ms mt mu dd wi hi gt sp ta li sr co hb) n
abbrev Q_X11_sift_81 (mo : MO) (mw : MW) (mr : MR) (ms : Nat) (mt : A) (mu : A) (dd : A) (wi : A) (hi : A) (gt : A) (sp : A) (ta : A) (li : A) (co : A) (hb : aH) (n : Nat) (k : Int32 → Int32 → Int32 → Int32 → Int32 → A → Out A Unit) : Prop := ∀ (v2 : Int32) (v3 : Int32) (v4 : Int32) (v6 : Int32) (t0 : Int32) (sr : A) (res : Out A Unit), k v2 v3 v4 v6 t0 sr = res → res ≠ fno → AW (fun _ _ => True) mX11_sift (rmD 1 0 0) 0 0 (P_X11_sift mo mw mr ms mt mu dd wi hi gt sp ta li co hb n res) (fun _ _ _ => False) 0 0 81 [(0, .ref 31), (2, .int v2), (3, .int v3), (4, .int v4), (6, .int v6)] [.int t0] (HM mo mw mr ms mt mu dd wi hi gt sp ta li sr co hb) n
abbrev Q_X11_sift_104 (mo : MO) (mw : MW) (mr : MR) (ms : Nat) (mt : A) (mu : A) (dd : A) (wi : A) (hi : A) (gt : A) (sp : A) (ta : A) (li : A) (co : A) (hb : aH) (n : Nat) (k : Int32 → Int32 → Int32 → Int32 → A → Out A Unit) : Prop := ∀ (v2 : Int32) (v3 : Int32) (v4 : Int32) (v5 : Int32) (sr : A) (res : Out A Unit), k v2 v3 v4 v5 sr = res → res ≠ fno → AW (fun _ _ => True) mX11_sift (rmD 1 0 0) 0 0 (P_X11_sift mo mw mr ms mt mu dd wi hi gt sp ta li co hb n res) (fun _ _ _ => False) 0 0 104 [(0, .ref 31), (2, .int v2), (3, .int v3), (4, .int v4), (5, .int v5)] [] (HM mo mw mr ms mt mu dd wi hi gt sp ta li sr co hb) n
abbrev Q_X11_sift_107 (mo : MO) (mw : MW) (mr : MR) (ms : Nat) (mt : A) (mu : A) (dd : A) (wi : A) (hi : A) (gt : A) (sp : A) (ta : A) (li : A) (co : A) (hb : aH) (n : Nat) (k : Int32 → Int32 → A → Out A Unit) : Prop := ∀ (v3 : Int32) (v4 : Int32) (sr : A) (res : Out A Unit), k v3 v4 sr = res → res ≠ fno → AW (fun _ _ => True) mX11_sift (rmD 1 0 0) 0 0 (P_X11_sift mo mw mr ms mt mu dd wi hi gt sp ta li co hb n res) (fun _ _ _ => False) 0 0 107 [(0, .ref 31), (3, .int v3), (4, .int v4)] [] (HM mo mw mr ms mt mu dd wi hi gt sp ta li sr co hb) n
def F_X11_sift_107   (v3 : Int32) (v4 : Int32) (sr : A) : Out A Unit := if inb v3 4096 then (fok () (upd sr (Int32.toNatClampNeg v3) v4)) else fno
set_option maxHeartbeats 1000000 in
set_option maxRecDepth 100000 in
theorem b_X11_sift_107 (mo : MO) (mw : MW) (mr : MR) (ms : Nat) (mt : A) (mu : A) (dd : A) (wi : A) (hi : A) (gt : A) (sp : A) (ta : A) (li : A) (co : A) (hb : aH) (n : Nat)   : Q_X11_sift_107 mo mw mr ms mt mu dd wi hi gt sp ta li co hb n (F_X11_sift_107 ) := by
  intro v3 v4 sr res hE hF
  unfold F_X11_sift_107 at hE
  refine aw_aload_n dX11_sift_107 rfl ?_
  refine aw_getf (v := .ref 41) dX11_sift_108 flX11_55_10 at_mod rfl ?_
  refine aw_iload_n dX11_sift_111 rfl ?_
  refine aw_iload dX11_sift_112 rfl ?_
  obtain ⟨g114, hE⟩ := fgd hE hF
  refine aw_iast (f := sr) dX11_sift_114 at_msorted (vp_in_iff.mpr g114) ?_
  refine aw_eqh (h2 := HM mo mw mr ms mt mu dd wi hi gt sp ta li (upd sr (Int32.toNatClampNeg v3) v4) co hb) up_msorted ?_
  exact aw_vret dX11_sift_115 rfl (Nat.zero_le _) (Nat.zero_le _) (Nat.zero_le _) (Nat.zero_le _) ⟨_, _, hE.symm, rfl, rfl, rfl⟩
def F_X11_sift_104  (k13 : Int32 → Int32 → Int32 → Int32 → A → Out A Unit) (v2 : Int32) (v3 : Int32) (v4 : Int32) (v5 : Int32) (sr : A) : Out A Unit := k13 v2 v3 v4 v5 sr
set_option maxHeartbeats 1000000 in
set_option maxRecDepth 100000 in
theorem b_X11_sift_104 (mo : MO) (mw : MW) (mr : MR) (ms : Nat) (mt : A) (mu : A) (dd : A) (wi : A) (hi : A) (gt : A) (sp : A) (ta : A) (li : A) (co : A) (hb : aH) (n : Nat)  (k13 : Int32 → Int32 → Int32 → Int32 → A → Out A Unit) (hk13 : Q_X11_sift_13 mo mw mr ms mt mu dd wi hi gt sp ta li co hb n k13) : Q_X11_sift_104 mo mw mr ms mt mu dd wi hi gt sp ta li co hb n (F_X11_sift_104 k13) := by
  intro v2 v3 v4 v5 sr res hE hF
  unfold F_X11_sift_104 at hE
  refine aw_goto (tgt := 13) dX11_sift_104 (by decide) ?_
  exact aw_lv _ (List.forall_mem_cons.mpr ⟨rfl, (List.forall_mem_cons.mpr ⟨rfl, (List.forall_mem_cons.mpr ⟨rfl, (List.forall_mem_cons.mpr ⟨rfl, (List.forall_mem_cons.mpr ⟨rfl, fun _ h => absurd h List.not_mem_nil⟩)⟩)⟩)⟩)⟩) (hk13 v2 v3 v4 v5 sr _ hE hF)
def F_X11_sift_81  (k13 : Int32 → Int32 → Int32 → Int32 → A → Out A Unit) (v2 : Int32) (v3 : Int32) (v4 : Int32) (v6 : Int32) (t0 : Int32) (sr : A) : Out A Unit := if t0 = 0 then (F_X11_sift_104 k13 v2 v3 v4 t0 sr) else (if inb v6 4096 then (if inb v3 4096 then (F_X11_sift_104 k13 v2 v6 v4 t0 (upd sr (Int32.toNatClampNeg v3) (sr (Int32.toNatClampNeg v6)))) else fno) else fno)
set_option maxHeartbeats 1000000 in
set_option maxRecDepth 100000 in
theorem b_X11_sift_81 (mo : MO) (mw : MW) (mr : MR) (ms : Nat) (mt : A) (mu : A) (dd : A) (wi : A) (hi : A) (gt : A) (sp : A) (ta : A) (li : A) (co : A) (hb : aH) (n : Nat)  (k13 : Int32 → Int32 → Int32 → Int32 → A → Out A Unit) (hk13 : Q_X11_sift_13 mo mw mr ms mt mu dd wi hi gt sp ta li co hb n k13) : Q_X11_sift_81 mo mw mr ms mt mu dd wi hi gt sp ta li co hb n (F_X11_sift_81 k13) := by
  intro v2 v3 v4 v6 t0 sr res hE hF
  unfold F_X11_sift_81 at hE
  refine aw_istore (lv2 := [(5, _), (0, _), (2, _), (3, _), (4, _), (6, _)]) dX11_sift_81 (by decide) rfl ?_
  refine aw_iload dX11_sift_83 rfl ?_
  refine aw_if_eq (tgt := 104) dX11_sift_85 (by decide) (fun c85 => ?_) (fun c85 => ?_)
  · replace hE := fit hE c85
    exact aw_lv _ (List.forall_mem_cons.mpr ⟨rfl, (List.forall_mem_cons.mpr ⟨rfl, (List.forall_mem_cons.mpr ⟨rfl, (List.forall_mem_cons.mpr ⟨rfl, (List.forall_mem_cons.mpr ⟨rfl, fun _ h => absurd h List.not_mem_nil⟩)⟩)⟩)⟩)⟩) (b_X11_sift_104 mo mw mr ms mt mu dd wi hi gt sp ta li co hb n  k13 hk13 v2 v3 v4 t0 sr _ hE hF)
  · replace hE := fif hE c85
    refine aw_aload_n dX11_sift_88 rfl ?_
    refine aw_getf (v := .ref 41) dX11_sift_89 flX11_55_10 at_mod rfl ?_
    refine aw_iload_n dX11_sift_92 rfl ?_
    refine aw_aload_n dX11_sift_93 rfl ?_
    refine aw_getf (v := .ref 41) dX11_sift_94 flX11_55_10 at_mod rfl ?_
    refine aw_iload dX11_sift_97 rfl ?_
    obtain ⟨g99, hE⟩ := fgd hE hF
    refine aw_iald (f := sr) dX11_sift_99 at_msorted (vp_in_iff.mpr g99) ?_
    obtain ⟨g100, hE⟩ := fgd hE hF
    refine aw_iast (f := sr) dX11_sift_100 at_msorted (vp_in_iff.mpr g100) ?_
    refine aw_eqh (h2 := HM mo mw mr ms mt mu dd wi hi gt sp ta li (upd sr (Int32.toNatClampNeg v3) (sr (Int32.toNatClampNeg v6))) co hb) up_msorted ?_
    refine aw_iload dX11_sift_101 rfl ?_
    refine aw_istore_n (lv2 := [(3, _), (5, _), (0, _), (2, _), (4, _), (6, _)]) dX11_sift_103 (by decide) rfl ?_
    exact aw_lv _ (List.forall_mem_cons.mpr ⟨rfl, (List.forall_mem_cons.mpr ⟨rfl, (List.forall_mem_cons.mpr ⟨rfl, (List.forall_mem_cons.mpr ⟨rfl, (List.forall_mem_cons.mpr ⟨rfl, fun _ h => absurd h List.not_mem_nil⟩)⟩)⟩)⟩)⟩) (b_X11_sift_104 mo mw mr ms mt mu dd wi hi gt sp ta li co hb n  k13 hk13 v2 v6 v4 t0 (upd sr (Int32.toNatClampNeg v3) (sr (Int32.toNatClampNeg v6))) _ hE hF)
def F_X11_sift_64  (k13 : Int32 → Int32 → Int32 → Int32 → A → Out A Unit) (v2 : Int32) (v3 : Int32) (v4 : Int32) (v6 : Int32) (sr : A) : Out A Unit := if inb v6 4096 then (if (sr (Int32.toNatClampNeg v6)) ≤ v4 then (F_X11_sift_81 k13 v2 v3 v4 v6 (0 : Int32) sr) else (F_X11_sift_81 k13 v2 v3 v4 v6 (1 : Int32) sr)) else fno
set_option maxHeartbeats 1000000 in
set_option maxRecDepth 100000 in
theorem b_X11_sift_64 (mo : MO) (mw : MW) (mr : MR) (ms : Nat) (mt : A) (mu : A) (dd : A) (wi : A) (hi : A) (gt : A) (sp : A) (ta : A) (li : A) (co : A) (hb : aH) (n : Nat)  (k13 : Int32 → Int32 → Int32 → Int32 → A → Out A Unit) (hk13 : Q_X11_sift_13 mo mw mr ms mt mu dd wi hi gt sp ta li co hb n k13) : Q_X11_sift_64 mo mw mr ms mt mu dd wi hi gt sp ta li co hb n (F_X11_sift_64 k13) := by
  intro v2 v3 v4 v6 sr res hE hF
  unfold F_X11_sift_64 at hE
  refine aw_aload_n dX11_sift_64 rfl ?_
  refine aw_getf (v := .ref 41) dX11_sift_65 flX11_55_10 at_mod rfl ?_
  refine aw_iload dX11_sift_68 rfl ?_
  obtain ⟨g70, hE⟩ := fgd hE hF
  refine aw_iald (f := sr) dX11_sift_70 at_msorted (vp_in_iff.mpr g70) ?_
  refine aw_iload dX11_sift_71 rfl ?_
  refine aw_icmp_le (tgt := 80) dX11_sift_73 (by decide) (fun c73 => ?_) (fun c73 => ?_)
  · replace hE := fit hE c73
    refine aw_iconst (v := 0) dX11_sift_80 (by decide) ?_
    exact aw_lv _ (List.forall_mem_cons.mpr ⟨rfl, (List.forall_mem_cons.mpr ⟨rfl, (List.forall_mem_cons.mpr ⟨rfl, (List.forall_mem_cons.mpr ⟨rfl, (List.forall_mem_cons.mpr ⟨rfl, fun _ h => absurd h List.not_mem_nil⟩)⟩)⟩)⟩)⟩) (b_X11_sift_81 mo mw mr ms mt mu dd wi hi gt sp ta li co hb n  k13 hk13 v2 v3 v4 v6 (0 : Int32) sr _ hE hF)
  · replace hE := fif hE c73
    refine aw_iconst (v := 1) dX11_sift_76 (by decide) ?_
    refine aw_goto (tgt := 81) dX11_sift_77 (by decide) ?_
    exact aw_lv _ (List.forall_mem_cons.mpr ⟨rfl, (List.forall_mem_cons.mpr ⟨rfl, (List.forall_mem_cons.mpr ⟨rfl, (List.forall_mem_cons.mpr ⟨rfl, (List.forall_mem_cons.mpr ⟨rfl, fun _ h => absurd h List.not_mem_nil⟩)⟩)⟩)⟩)⟩) (b_X11_sift_81 mo mw mr ms mt mu dd wi hi gt sp ta li co hb n  k13 hk13 v2 v3 v4 v6 (1 : Int32) sr _ hE hF)
def F_X11_sift_13  (k13 : Int32 → Int32 → Int32 → Int32 → A → Out A Unit) (v2 : Int32) (v3 : Int32) (v4 : Int32) (v5 : Int32) (sr : A) : Out A Unit := if v5 = 0 then (F_X11_sift_107  v3 v4 sr) else (if v2 ≤ ((2 * v3) + 1) then (F_X11_sift_107  v3 v4 sr) else (if v2 ≤ (((2 * v3) + 1) + 1) then (F_X11_sift_64 k13 v2 v3 v4 ((2 * v3) + 1) sr) else (if inb (((2 * v3) + 1) + 1) 4096 then (if inb ((2 * v3) + 1) 4096 then (if (sr (Int32.toNatClampNeg (((2 * v3) + 1) + 1))) ≤ (sr (Int32.toNatClampNeg ((2 * v3) + 1))) then (F_X11_sift_64 k13 v2 v3 v4 ((2 * v3) + 1) sr) else (F_X11_sift_64 k13 v2 v3 v4 (((2 * v3) + 1) + 1) sr)) else fno) else fno)))
set_option maxHeartbeats 1000000 in
set_option maxRecDepth 100000 in
theorem b_X11_sift_13 (mo : MO) (mw : MW) (mr : MR) (ms : Nat) (mt : A) (mu : A) (dd : A) (wi : A) (hi : A) (gt : A) (sp : A) (ta : A) (li : A) (co : A) (hb : aH) (n : Nat)  (k13 : Int32 → Int32 → Int32 → Int32 → A → Out A Unit) (hk13 : Q_X11_sift_13 mo mw mr ms mt mu dd wi hi gt sp ta li co hb n k13) : Q_X11_sift_13 mo mw mr ms mt mu dd wi hi gt sp ta li co hb n (F_X11_sift_13 k13) := by
  intro v2 v3 v4 v5 sr res hE hF
  unfold F_X11_sift_13 at hE
  refine aw_iload dX11_sift_13 rfl ?_
  refine aw_if_eq (tgt := 107) dX11_sift_15 (by decide) (fun c15 => ?_) (fun c15 => ?_)
  · replace hE := fit hE c15
    exact aw_lv _ (List.forall_mem_cons.mpr ⟨rfl, (List.forall_mem_cons.mpr ⟨rfl, (List.forall_mem_cons.mpr ⟨rfl, fun _ h => absurd h List.not_mem_nil⟩)⟩)⟩) (b_X11_sift_107 mo mw mr ms mt mu dd wi hi gt sp ta li co hb n   v3 v4 sr _ hE hF)
  · replace hE := fif hE c15
    refine aw_iconst (v := 2) dX11_sift_18 (by decide) ?_
    refine aw_iload_n dX11_sift_19 rfl ?_
    refine aw_imul dX11_sift_20 ?_
    refine aw_iconst (v := 1) dX11_sift_21 (by decide) ?_
    refine aw_iadd dX11_sift_22 ?_
    refine aw_iload_n dX11_sift_23 rfl ?_
    refine aw_icmp_ge (tgt := 107) dX11_sift_24 (by decide) (fun c24 => ?_) (fun c24 => ?_)
    · replace hE := fit hE c24
      exact aw_lv _ (List.forall_mem_cons.mpr ⟨rfl, (List.forall_mem_cons.mpr ⟨rfl, (List.forall_mem_cons.mpr ⟨rfl, fun _ h => absurd h List.not_mem_nil⟩)⟩)⟩) (b_X11_sift_107 mo mw mr ms mt mu dd wi hi gt sp ta li co hb n   v3 v4 sr _ hE hF)
    · replace hE := fif hE c24
      refine aw_iconst (v := 2) dX11_sift_27 (by decide) ?_
      refine aw_iload_n dX11_sift_28 rfl ?_
      refine aw_imul dX11_sift_29 ?_
      refine aw_iconst (v := 1) dX11_sift_30 (by decide) ?_
      refine aw_iadd dX11_sift_31 ?_
      refine aw_istore (lv2 := [(6, _), (0, _), (2, _), (3, _), (4, _), (5, _)]) dX11_sift_32 (by decide) rfl ?_
      refine aw_iload dX11_sift_34 rfl ?_
      refine aw_iconst (v := 1) dX11_sift_36 (by decide) ?_
      refine aw_iadd dX11_sift_37 ?_
      refine aw_iload_n dX11_sift_38 rfl ?_
      refine aw_icmp_ge (tgt := 64) dX11_sift_39 (by decide) (fun c39 => ?_) (fun c39 => ?_)
      · replace hE := fit hE c39
        exact aw_lv _ (List.forall_mem_cons.mpr ⟨rfl, (List.forall_mem_cons.mpr ⟨rfl, (List.forall_mem_cons.mpr ⟨rfl, (List.forall_mem_cons.mpr ⟨rfl, (List.forall_mem_cons.mpr ⟨rfl, fun _ h => absurd h List.not_mem_nil⟩)⟩)⟩)⟩)⟩) (b_X11_sift_64 mo mw mr ms mt mu dd wi hi gt sp ta li co hb n  k13 hk13 v2 v3 v4 ((2 * v3) + 1) sr _ hE hF)
      · replace hE := fif hE c39
        refine aw_aload_n dX11_sift_42 rfl ?_
        refine aw_getf (v := .ref 41) dX11_sift_43 flX11_55_10 at_mod rfl ?_
        refine aw_iload dX11_sift_46 rfl ?_
        refine aw_iconst (v := 1) dX11_sift_48 (by decide) ?_
        refine aw_iadd dX11_sift_49 ?_
        obtain ⟨g50, hE⟩ := fgd hE hF
        refine aw_iald (f := sr) dX11_sift_50 at_msorted (vp_in_iff.mpr g50) ?_
        refine aw_aload_n dX11_sift_51 rfl ?_
        refine aw_getf (v := .ref 41) dX11_sift_52 flX11_55_10 at_mod rfl ?_
        refine aw_iload dX11_sift_55 rfl ?_
        obtain ⟨g57, hE⟩ := fgd hE hF
        refine aw_iald (f := sr) dX11_sift_57 at_msorted (vp_in_iff.mpr g57) ?_
        refine aw_icmp_le (tgt := 64) dX11_sift_58 (by decide) (fun c58 => ?_) (fun c58 => ?_)
        · replace hE := fit hE c58
          exact aw_lv _ (List.forall_mem_cons.mpr ⟨rfl, (List.forall_mem_cons.mpr ⟨rfl, (List.forall_mem_cons.mpr ⟨rfl, (List.forall_mem_cons.mpr ⟨rfl, (List.forall_mem_cons.mpr ⟨rfl, fun _ h => absurd h List.not_mem_nil⟩)⟩)⟩)⟩)⟩) (b_X11_sift_64 mo mw mr ms mt mu dd wi hi gt sp ta li co hb n  k13 hk13 v2 v3 v4 ((2 * v3) + 1) sr _ hE hF)
        · replace hE := fif hE c58
          refine aw_iinc (v := (((2 * v3) + 1) + 1)) (lv2 := [(6, _), (0, _), (2, _), (3, _), (4, _), (5, _)]) dX11_sift_61 rfl (incE (by decide)) (by decide) rfl ?_
          exact aw_lv _ (List.forall_mem_cons.mpr ⟨rfl, (List.forall_mem_cons.mpr ⟨rfl, (List.forall_mem_cons.mpr ⟨rfl, (List.forall_mem_cons.mpr ⟨rfl, (List.forall_mem_cons.mpr ⟨rfl, fun _ h => absurd h List.not_mem_nil⟩)⟩)⟩)⟩)⟩) (b_X11_sift_64 mo mw mr ms mt mu dd wi hi gt sp ta li co hb n  k13 hk13 v2 v3 v4 (((2 * v3) + 1) + 1) sr _ hE hF)
def F_X11_sift (a1 : Int32) (a2 : Int32) (sr : A) : Out A Unit := if inb a1 4096 then (lp (fun _ _ _ _ _ => fno) (F_X11_sift_13 ) FU a2 a1 (sr (Int32.toNatClampNeg a1)) (1 : Int32) sr) else fno
set_option maxHeartbeats 1000000 in
set_option maxRecDepth 100000 in
theorem kF_X11_sift (mo : MO) (mw : MW) (mr : MR) (ms : Nat) (mt : A) (mu : A) (dd : A) (wi : A) (hi : A) (gt : A) (sp : A) (ta : A) (li : A) (sr : A) (co : A) (hb : aH) (n : Nat)  (a1 : Int32) (a2 : Int32) (hF : F_X11_sift a1 a2 sr ≠ fno) : AM mX11_sift 1 [.ref 31, .int a1, .int a2] (HM mo mw mr ms mt mu dd wi hi gt sp ta li sr co hb) n 0 0 0 0 (P_X11_sift mo mw mr ms mt mu dd wi hi gt sp ta li co hb n (F_X11_sift a1 a2 sr)) (fun _ _ _ => False) := by
  generalize hE : F_X11_sift a1 a2 sr = res at hF ⊢
  refine aw_of (by decide +kernel) rfl (Nat.le_of_ble_eq_true rfl) ?_
  unfold F_X11_sift at hE
  refine aw_iload_n dX11_sift_0 rfl ?_
  refine aw_istore_n (lv2 := [(3, _), (0, _), (1, _), (2, _)]) dX11_sift_1 (by decide) rfl ?_
  refine aw_aload_n dX11_sift_2 rfl ?_
  refine aw_getf (v := .ref 41) dX11_sift_3 flX11_55_10 at_mod rfl ?_
  refine aw_iload_n dX11_sift_6 rfl ?_
  obtain ⟨g7, hE⟩ := fgd hE hF
  refine aw_iald (f := sr) dX11_sift_7 at_msorted (vp_in_iff.mpr g7) ?_
  refine aw_istore (lv2 := [(4, _), (3, _), (0, _), (1, _), (2, _)]) dX11_sift_8 (by decide) rfl ?_
  refine aw_iconst (v := 1) dX11_sift_10 (by decide) ?_
  refine aw_istore (lv2 := [(5, _), (4, _), (3, _), (0, _), (1, _), (2, _)]) dX11_sift_11 (by decide) rfl ?_
  exact aw_lv _ (List.forall_mem_cons.mpr ⟨rfl, (List.forall_mem_cons.mpr ⟨rfl, (List.forall_mem_cons.mpr ⟨rfl, (List.forall_mem_cons.mpr ⟨rfl, (List.forall_mem_cons.mpr ⟨rfl, fun _ h => absurd h List.not_mem_nil⟩)⟩)⟩)⟩)⟩) (lp_ind (Q_X11_sift_13 mo mw mr ms mt mu dd wi hi gt sp ta li co hb n) (fun _ _ _ _ _ res hq hF => (hF hq.symm).elim) (fun k hk => b_X11_sift_13 mo mw mr ms mt mu dd wi hi gt sp ta li co hb n   k hk) FU a2 a1 (sr (Int32.toNatClampNeg a1)) (1 : Int32) sr _ hE hF)
def P_X11_put_ (mo : MO) (mr : MR) (ms : Nat) (mt : A) (dd : A) (wi : A) (hi : A) (gt : A) (sp : A) (ta : A) (li : A) (sr : A) (co : A) (hb : aH) (n : Nat) (res : Out (MW × A) Unit) : Option Value → aH → Nat → Prop := fun r1 h2 n2 => ∃ (a : Unit) (s : (MW × A)), res = fok a s ∧ r1 = none ∧ h2 = HM mo s.1 mr ms mt s.2 dd wi hi gt sp ta li sr co hb ∧ n = n2
def F_X11_put_ (a1 : Int32) (mw : MW) (mu : A) : Out (MW × A) Unit := if inb (mw_om mw) 65536 then (fok () ((((mw_om mw) + 1), (mw_ho mw), (mw_cm mw)), (upd mu (Int32.toNatClampNeg (mw_om mw)) (vp_nar .byte (a1).toInt8.toInt32)))) else fno
set_option maxHeartbeats 1000000 in
set_option maxRecDepth 100000 in
theorem kF_X11_put_ (mo : MO) (mw : MW) (mr : MR) (ms : Nat) (mt : A) (mu : A) (dd : A) (wi : A) (hi : A) (gt : A) (sp : A) (ta : A) (li : A) (sr : A) (co : A) (hb : aH) (n : Nat)  (a1 : Int32) (hF : F_X11_put_ a1 mw mu ≠ fno) : AM mX11_put_ 1 [.ref 31, .int a1] (HM mo mw mr ms mt mu dd wi hi gt sp ta li sr co hb) n 0 0 0 0 (P_X11_put_ mo mr ms mt dd wi hi gt sp ta li sr co hb n (F_X11_put_ a1 mw mu)) (fun _ _ _ => False) := by
  generalize hE : F_X11_put_ a1 mw mu = res at hF ⊢
  refine aw_of (by decide +kernel) rfl (Nat.le_of_ble_eq_true rfl) ?_
  unfold F_X11_put_ at hE
  refine aw_aload_n dX11_put__0 rfl ?_
  refine aw_getf (v := .ref 33) dX11_put__1 flX11_14_10 at_mod rfl ?_
  refine aw_aload_n dX11_put__4 rfl ?_
  refine aw_getf (v := .int (mw_om mw)) dX11_put__5 flX11_75_10 at_mod rfl ?_
  refine aw_iload_n dX11_put__8 rfl ?_
  refine aw_i2b dX11_put__9 ?_
  obtain ⟨g10, hE⟩ := fgd hE hF
  refine aw_bast (f := mu) dX11_put__10 at_mout (vp_in_iff.mpr g10) ?_
  refine aw_eqh (h2 := HM mo mw mr ms mt (upd mu (Int32.toNatClampNeg (mw_om mw)) (vp_nar .byte (a1).toInt8.toInt32)) dd wi hi gt sp ta li sr co hb) up_mout ?_
  refine aw_aload_n dX11_put__11 rfl ?_
  refine aw_dup dX11_put__12 rfl ?_
  refine aw_getf (v := .int (mw_om mw)) dX11_put__13 flX11_75_10 at_mod rfl ?_
  refine aw_iconst (v := 1) dX11_put__16 (by decide) ?_
  refine aw_iadd dX11_put__17 ?_
  refine aw_putf dX11_put__18 ptX11_75_10 at_mod (Nat.le_of_ble_eq_true rfl) ⟨rfl, rfl⟩ ?_
  refine aw_eqh (h2 := HM mo (((mw_om mw) + 1), (mw_ho mw), (mw_cm mw)) mr ms mt (upd mu (Int32.toNatClampNeg (mw_om mw)) (vp_nar .byte (a1).toInt8.toInt32)) dd wi hi gt sp ta li sr co hb) up_mod ?_
  exact aw_vret dX11_put__21 rfl (Nat.zero_le _) (Nat.zero_le _) (Nat.zero_le _) (Nat.zero_le _) ⟨_, _, hE.symm, rfl, rfl, rfl⟩
def P_X11_putTop (mo : MO) (mr : MR) (ms : Nat) (mt : A) (dd : A) (wi : A) (hi : A) (gt : A) (sp : A) (ta : A) (li : A) (sr : A) (co : A) (hb : aH) (n : Nat) (res : Out (MW × A) Unit) : Option Value → aH → Nat → Prop := fun r1 h2 n2 => ∃ (a : Unit) (s : (MW × A)), res = fok a s ∧ r1 = none ∧ h2 = HM mo s.1 mr ms mt s.2 dd wi hi gt sp ta li sr co hb ∧ n = n2
abbrev Q_X11_putTop_3 (mo : MO) (mr : MR) (ms : Nat) (mt : A) (dd : A) (wi : A) (hi : A) (gt : A) (sp : A) (ta : A) (li : A) (sr : A) (co : A) (hb : aH) (n : Nat) (k : Int32 → Int32 → MW → A → Out (MW × A) Unit) : Prop := ∀ (v1 : Int32) (v2 : Int32) (mw : MW) (mu : A) (res : Out (MW × A) Unit), k v1 v2 mw mu = res → res ≠ fno → AW (fun _ _ => True) mX11_putTop (rmD 2 0 0) 0 0 (P_X11_putTop mo mr ms mt dd wi hi gt sp ta li sr co hb n res) (fun _ _ _ => False) 0 0 3 [(0, .ref 31), (1, .int v1), (2, .int v2)] [] (HM mo mw mr ms mt mu dd wi hi gt sp ta li sr co hb) n
def F_X11_putTop_3  (k3 : Int32 → Int32 → MW → A → Out (MW × A) Unit) (v1 : Int32) (v2 : Int32) (mw : MW) (mu : A) : Out (MW × A) Unit := if v2 < 0 then (fok () (mw, mu)) else (fon (F_X11_put_ (v1 >>> (v2 &&& 31)) mw mu) (fun z11 s11 => k3 v1 (v2 + (-8)) s11.1 s11.2) (fun _ _ => fno))
set_option maxHeartbeats 1000000 in
set_option maxRecDepth 100000 in
theorem b_X11_putTop_3 (mo : MO) (mr : MR) (ms : Nat) (mt : A) (dd : A) (wi : A) (hi : A) (gt : A) (sp : A) (ta : A) (li : A) (sr : A) (co : A) (hb : aH) (n : Nat)  (k3 : Int32 → Int32 → MW → A → Out (MW × A) Unit) (hk3 : Q_X11_putTop_3 mo mr ms mt dd wi hi gt sp ta li sr co hb n k3) : Q_X11_putTop_3 mo mr ms mt dd wi hi gt sp ta li sr co hb n (F_X11_putTop_3 k3) := by
  intro v1 v2 mw mu res hE hF
  unfold F_X11_putTop_3 at hE
  refine aw_iload_n dX11_putTop_3 rfl ?_
  refine aw_if_lt (tgt := 20) dX11_putTop_4 (by decide) (fun c4 => ?_) (fun c4 => ?_)
  · replace hE := fit hE c4
    exact aw_vret dX11_putTop_20 rfl (Nat.zero_le _) (Nat.zero_le _) (Nat.zero_le _) (Nat.zero_le _) ⟨_, _, hE.symm, rfl, rfl, rfl⟩
  · replace hE := fif hE c4
    refine aw_aload_n dX11_putTop_7 rfl ?_
    refine aw_iload_n dX11_putTop_8 rfl ?_
    refine aw_iload_n dX11_putTop_9 rfl ?_
    refine aw_ishr dX11_putTop_10 ?_
    refine aw_callV dX11_putTop_11 at_mod cvX11_280 rfl (kF_X11_put_ mo mw mr ms mt mu dd wi hi gt sp ta li sr co hb _  (v1 >>> (v2 &&& 31)) (fon_ne hE hF)) rfl (Nat.le_of_ble_eq_true rfl) (by decide) (by decide) (by decide) (by decide) (fun _ _ _ hf => False.elim hf) (fun r11 h11 n11 hp11 => ?_)
    obtain ⟨z11, s11, e11, rfl, rfl, rfl⟩ := hp11
    replace hE := fon_ok e11 hE
    refine aw_iinc (v := (v2 + (-8))) (lv2 := [(2, _), (0, _), (1, _)]) dX11_putTop_14 rfl (incE (by decide)) (by decide) rfl ?_
    refine aw_goto (tgt := 3) dX11_putTop_17 (by decide) ?_
    exact aw_lv _ (List.forall_mem_cons.mpr ⟨rfl, (List.forall_mem_cons.mpr ⟨rfl, (List.forall_mem_cons.mpr ⟨rfl, fun _ h => absurd h List.not_mem_nil⟩)⟩)⟩) (hk3 v1 (v2 + (-8)) s11.1 s11.2 _ hE hF)
def F_X11_putTop (a1 : Int32) (mw : MW) (mu : A) : Out (MW × A) Unit := lp (fun _ _ _ _ => fno) (F_X11_putTop_3 ) FU a1 (24 : Int32) mw mu
set_option maxHeartbeats 1000000 in
set_option maxRecDepth 100000 in
theorem kF_X11_putTop (mo : MO) (mw : MW) (mr : MR) (ms : Nat) (mt : A) (mu : A) (dd : A) (wi : A) (hi : A) (gt : A) (sp : A) (ta : A) (li : A) (sr : A) (co : A) (hb : aH) (n : Nat)  (a1 : Int32) (hF : F_X11_putTop a1 mw mu ≠ fno) : AM mX11_putTop 2 [.ref 31, .int a1] (HM mo mw mr ms mt mu dd wi hi gt sp ta li sr co hb) n 0 0 0 0 (P_X11_putTop mo mr ms mt dd wi hi gt sp ta li sr co hb n (F_X11_putTop a1 mw mu)) (fun _ _ _ => False) := by
  generalize hE : F_X11_putTop a1 mw mu = res at hF ⊢
  refine aw_of (by decide +kernel) rfl (Nat.le_of_ble_eq_true rfl) ?_
  unfold F_X11_putTop at hE
  refine aw_bipush (v := 24) dX11_putTop_0 (by decide) ?_
  refine aw_istore_n (lv2 := [(2, _), (0, _), (1, _)]) dX11_putTop_2 (by decide) rfl ?_
  exact aw_lv _ (List.forall_mem_cons.mpr ⟨rfl, (List.forall_mem_cons.mpr ⟨rfl, (List.forall_mem_cons.mpr ⟨rfl, fun _ h => absurd h List.not_mem_nil⟩)⟩)⟩) (lp_ind (Q_X11_putTop_3 mo mr ms mt dd wi hi gt sp ta li sr co hb n) (fun _ _ _ _ res hq hF => (hF hq.symm).elim) (fun k hk => b_X11_putTop_3 mo mr ms mt dd wi hi gt sp ta li sr co hb n   k hk) FU a1 (24 : Int32) mw mu _ hE hF)
