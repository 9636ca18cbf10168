def P_X11_readBits (mo : MO) (mw : MW) (ms : Nat) (mt : A) (mu : A) (dd : A) (wi : A) (hi : A) (sp : A) (ta : A) (li : A) (sr : A) (co : A) (hb : aH) (n : Nat) (res : Out (MR × A) Int32) : Option Value → aH → Nat → Prop := fun r1 h2 n2 => ∃ (a : Int32) (s : (MR × A)), res = fok a s ∧ r1 = some (.int a) ∧ h2 = HM mo mw s.1 ms mt mu dd wi hi s.2 sp ta li sr co hb ∧ n = n2
abbrev Q_X11_readBits_2 (mo : MO) (mw : MW) (ms : Nat) (mt : A) (mu : A) (dd : A) (wi : A) (hi : A) (sp : A) (ta : A) (li : A) (sr : A) (co : A) (hb : aH) (n : Nat) (k : Int32 → MR → A → Out (MR × A) Int32) : Prop := ∀ (v1 : Int32) (mr : MR) (gt : A) (res : Out (MR × A) Int32), k v1 mr gt = res → res ≠ fno → AW (fun _ _ => True) mX11_readBits (rmD 3 0 0) 0 0 (P_X11_readBits mo mw ms mt mu dd wi hi sp ta li sr co hb n res) (fun _ _ _ => False) 0 0 2 [(0, .ref 31), (1, .int v1)] [] (HM mo mw mr ms mt mu dd wi hi gt sp ta li sr co hb) n
abbrev Q_X11_readBits_49 (mo : MO) (mw : MW) (ms : Nat) (mt : A) (mu : A) (dd : A) (wi : A) (hi : A) (sp : A) (ta : A) (li : A) (sr : A) (co : A) (hb : aH) (n : Nat) (k : Int32 → Int32 → MR → A → Out (MR × A) Int32) : Prop := ∀ (v1 : Int32) (v2 : Int32) (mr : MR) (gt : A) (res : Out (MR × A) Int32), k v1 v2 mr gt = res → res ≠ fno → AW (fun _ _ => True) mX11_readBits (rmD 3 0 0) 0 0 (P_X11_readBits mo mw ms mt mu dd wi hi sp ta li sr co hb n res) (fun _ _ _ => False) 0 0 49 [(0, .ref 31), (1, .int v1), (2, .int v2)] [] (HM mo mw mr ms mt mu dd wi hi gt sp ta li sr co hb) n
abbrev Q_X11_readBits_85 (mo : MO) (mw : MW) (ms : Nat) (mt : A) (mu : A) (dd : A) (wi : A) (hi : A) (sp : A) (ta : A) (li : A) (sr : A) (co : A) (hb : aH) (n : Nat) (k : Int32 → Int32 → Int32 → MR → A → Out (MR × A) Int32) : Prop := ∀ (v1 : Int32) (t0 : Int32) (t1 : Int32) (mr : MR) (gt : A) (res : Out (MR × A) Int32), k v1 t0 t1 mr gt = res → res ≠ fno → AW (fun _ _ => True) mX11_readBits (rmD 3 0 0) 0 0 (P_X11_readBits mo mw ms mt mu dd wi hi sp ta li sr co hb n res) (fun _ _ _ => False) 0 0 85 [(0, .ref 31), (1, .int v1)] [.int t0, .int t1, .ref 37] (HM mo mw mr ms mt mu dd wi hi gt sp ta li sr co hb) n
def F_X11_readBits_85 (sb : A) (k2 : Int32 → MR → A → Out (MR × A) Int32) (v1 : Int32) (t0 : Int32) (t1 : Int32) (mr : MR) (gt : A) : Out (MR × A) Int32 := if inb t1 4096 then (k2 (v1 + 1) mr (upd gt (Int32.toNatClampNeg t1) (F_X11_gray t0))) else fno
set_option maxHeartbeats 1000000 in
set_option maxRecDepth 100000 in
theorem b_X11_readBits_85 (mo : MO) (mw : MW) (ms : Nat) (mt : A) (mu : A) (dd : A) (wi : A) (hi : A) (sp : A) (ta : A) (li : A) (sr : A) (co : A) (hb : aH) (n : Nat) (hms : isMS ms) (k2 : Int32 → MR → A → Out (MR × A) Int32) (hk2 : Q_X11_readBits_2 mo mw ms mt mu dd wi hi sp ta li sr co hb n k2) : Q_X11_readBits_85 mo mw ms mt mu dd wi hi sp ta li sr co hb n (F_X11_readBits_85 (srcB ms mt mu) k2) := by
  intro v1 t0 t1 mr gt res hE hF
  unfold F_X11_readBits_85 at hE
  refine aw_callS dX11_readBits_85  csX11_176 rfl (kF_X11_gray _ _ t0) rfl (Nat.le_of_ble_eq_true rfl) (by decide) (by decide) (by decide) (by decide) (fun _ _ _ hf => False.elim hf) (fun r85 h85 n85 hp85 => ?_)
  obtain ⟨rfl, rfl, rfl⟩ := hp85
  obtain ⟨g88, hE⟩ := fgd hE hF
  refine aw_iast (f := gt) dX11_readBits_88 at_mgot (vp_in_iff.mpr g88) ?_
  refine aw_eqh (h2 := HM mo mw mr ms mt mu dd wi hi (upd gt (Int32.toNatClampNeg t1) (F_X11_gray t0)) sp ta li sr co hb) up_mgot ?_
  refine aw_iinc (v := (v1 + 1)) (lv2 := [(1, _), (0, _)]) dX11_readBits_89 rfl (incE (by decide)) (by decide) rfl ?_
  refine aw_goto (tgt := 2) dX11_readBits_92 (by decide) ?_
  exact aw_lv _ (List.forall_mem_cons.mpr ⟨rfl, (List.forall_mem_cons.mpr ⟨rfl, fun _ h => absurd h List.not_mem_nil⟩)⟩) (hk2 (v1 + 1) mr (upd gt (Int32.toNatClampNeg t1) (F_X11_gray t0)) _ hE hF)
def F_X11_readBits_49 (sb : A) (k2 : Int32 → MR → A → Out (MR × A) Int32) (v1 : Int32) (v2 : Int32) (mr : MR) (gt : A) : Out (MR × A) Int32 := fon (F_X11_b ((mr_pos mr) - 1) sb) (fun z61 s61 => if ((z61 >>> ((7 - (v2 - v2 / 8 * 8)) &&& 31)) &&& 1) = 1 then (F_X11_readBits_85 sb k2 v1 (0 : Int32) v1 mr gt) else (F_X11_readBits_85 sb k2 v1 (255 : Int32) v1 mr gt)) (fun _ _ => fno)
set_option maxHeartbeats 1000000 in
set_option maxRecDepth 100000 in
theorem b_X11_readBits_49 (mo : MO) (mw : MW) (ms : Nat) (mt : A) (mu : A) (dd : A) (wi : A) (hi : A) (sp : A) (ta : A) (li : A) (sr : A) (co : A) (hb : aH) (n : Nat) (hms : isMS ms) (k2 : Int32 → MR → A → Out (MR × A) Int32) (hk2 : Q_X11_readBits_2 mo mw ms mt mu dd wi hi sp ta li sr co hb n k2) : Q_X11_readBits_49 mo mw ms mt mu dd wi hi sp ta li sr co hb n (F_X11_readBits_49 (srcB ms mt mu) k2) := by
  intro v1 v2 mr gt res hE hF
  unfold F_X11_readBits_49 at hE
  refine aw_aload_n dX11_readBits_49 rfl ?_
  refine aw_getf (v := .ref 37) dX11_readBits_50 flX11_27_10 at_mod rfl ?_
  refine aw_iload_n dX11_readBits_53 rfl ?_
  refine aw_aload_n dX11_readBits_54 rfl ?_
  refine aw_aload_n dX11_readBits_55 rfl ?_
  refine aw_getf (v := .int (mr_pos mr)) dX11_readBits_56 flX11_84_10 at_mod rfl ?_
  refine aw_iconst (v := 1) dX11_readBits_59 (by decide) ?_
  refine aw_isub dX11_readBits_60 ?_
  refine aw_callV dX11_readBits_61 at_mod cvX11_99 rfl (kF_X11_b mo mw mr ms mt mu dd wi hi gt sp ta li sr co hb _ hms ((mr_pos mr) - 1) (fon_ne hE hF)) rfl (Nat.le_of_ble_eq_true rfl) (by decide) (by decide) (by decide) (by decide) (fun _ _ _ hf => False.elim hf) (fun r61 h61 n61 hp61 => ?_)
  obtain ⟨z61, s61, e61, rfl, rfl, rfl⟩ := hp61
  replace hE := fon_ok e61 hE
  refine aw_bipush (v := 7) dX11_readBits_64 (by decide) ?_
  refine aw_iload_n dX11_readBits_66 rfl ?_
  refine aw_bipush (v := 8) dX11_readBits_67 (by decide) ?_
  refine aw_irem dX11_readBits_69 (by decide) ?_
  refine aw_isub dX11_readBits_70 ?_
  refine aw_ishr dX11_readBits_71 ?_
  refine aw_iconst (v := 1) dX11_readBits_72 (by decide) ?_
  refine aw_iand dX11_readBits_73 ?_
  refine aw_iconst (v := 1) dX11_readBits_74 (by decide) ?_
  refine aw_icmp_ne (tgt := 82) dX11_readBits_75 (by decide) (fun c75 => ?_) (fun c75 => ?_)
  · replace hE := fif hE c75
    refine aw_sipush (v := 255) dX11_readBits_82 (by decide) ?_
    exact aw_lv _ (List.forall_mem_cons.mpr ⟨rfl, (List.forall_mem_cons.mpr ⟨rfl, fun _ h => absurd h List.not_mem_nil⟩)⟩) (b_X11_readBits_85 mo mw ms mt mu dd wi hi sp ta li sr co hb n hms k2 hk2 v1 (255 : Int32) v1 mr gt _ hE hF)
  · replace hE := fit hE c75
    refine aw_iconst (v := 0) dX11_readBits_78 (by decide) ?_
    refine aw_goto (tgt := 85) dX11_readBits_79 (by decide) ?_
    exact aw_lv _ (List.forall_mem_cons.mpr ⟨rfl, (List.forall_mem_cons.mpr ⟨rfl, fun _ h => absurd h List.not_mem_nil⟩)⟩) (b_X11_readBits_85 mo mw ms mt mu dd wi hi sp ta li sr co hb n hms k2 hk2 v1 (0 : Int32) v1 mr gt _ hE hF)
def F_X11_readBits_2 (sb : A) (k2 : Int32 → MR → A → Out (MR × A) Int32) (v1 : Int32) (mr : MR) (gt : A) : Out (MR × A) Int32 := if ((mr_gw mr) * (mr_gh mr)) ≤ v1 then (fon (F_X11_closes mr) (fun z96 s96 => if isB z96 then (fok (z96 : Int32) (s96, gt)) else fno) (fun _ _ => fno)) else (if ¬ (mr_gw mr) = 0 then (if ((v1 - v1 / (mr_gw mr) * (mr_gw mr)) - (v1 - v1 / (mr_gw mr) * (mr_gw mr)) / 8 * 8) = 0 then (fon (F_X11_want 1 mr) (fun z31 s31 => if z31 = 0 then (fok (0 : Int32) (s31, gt)) else (F_X11_readBits_49 sb k2 v1 (v1 - v1 / (mr_gw mr) * (mr_gw mr)) ((mr_size s31), ((mr_pos s31) + 1), (mr_kind s31), (mr_whr s31), (mr_gw s31), (mr_gh s31), (mr_one s31), (mr_two s31), (mr_three s31)) gt)) (fun _ _ => fno)) else (F_X11_readBits_49 sb k2 v1 (v1 - v1 / (mr_gw mr) * (mr_gw mr)) mr gt)) else fno)
set_option maxHeartbeats 1000000 in
set_option maxRecDepth 100000 in
theorem b_X11_readBits_2 (mo : MO) (mw : MW) (ms : Nat) (mt : A) (mu : A) (dd : A) (wi : A) (hi : A) (sp : A) (ta : A) (li : A) (sr : A) (co : A) (hb : aH) (n : Nat) (hms : isMS ms) (k2 : Int32 → MR → A → Out (MR × A) Int32) (hk2 : Q_X11_readBits_2 mo mw ms mt mu dd wi hi sp ta li sr co hb n k2) : Q_X11_readBits_2 mo mw ms mt mu dd wi hi sp ta li sr co hb n (F_X11_readBits_2 (srcB ms mt mu) k2) := by
  intro v1 mr gt res hE hF
  unfold F_X11_readBits_2 at hE
  refine aw_iload_n dX11_readBits_2 rfl ?_
  refine aw_aload_n dX11_readBits_3 rfl ?_
  refine aw_getf (v := .int (mr_gw mr)) dX11_readBits_4 flX11_109_10 at_mod rfl ?_
  refine aw_aload_n dX11_readBits_7 rfl ?_
  refine aw_getf (v := .int (mr_gh mr)) dX11_readBits_8 flX11_112_10 at_mod rfl ?_
  refine aw_imul dX11_readBits_11 ?_
  refine aw_icmp_ge (tgt := 95) dX11_readBits_12 (by decide) (fun c12 => ?_) (fun c12 => ?_)
  · replace hE := fit hE c12
    refine aw_aload_n dX11_readBits_95 rfl ?_
    refine aw_callV dX11_readBits_96 at_mod cvX11_145 rfl (kF_X11_closes mo mw mr ms mt mu dd wi hi gt sp ta li sr co hb _   (fon_ne hE hF)) rfl (Nat.le_of_ble_eq_true rfl) (by decide) (by decide) (by decide) (by decide) (fun _ _ _ hf => False.elim hf) (fun r96 h96 n96 hp96 => ?_)
    obtain ⟨z96, s96, e96, rfl, rfl, rfl⟩ := hp96
    replace hE := fon_ok e96 hE
    obtain ⟨g99, hE⟩ := fgd hE hF
    exact aw_zret dX11_readBits_99 rfl (narB g99) (Nat.zero_le _) (Nat.zero_le _) (Nat.zero_le _) (Nat.zero_le _) ⟨_, _, hE.symm, rfl, rfl, rfl⟩
  · replace hE := fif hE c12
    refine aw_iload_n dX11_readBits_15 rfl ?_
    refine aw_aload_n dX11_readBits_16 rfl ?_
    refine aw_getf (v := .int (mr_gw mr)) dX11_readBits_17 flX11_109_10 at_mod rfl ?_
    obtain ⟨g20, hE⟩ := fgd hE hF
    refine aw_irem dX11_readBits_20 g20 ?_
    refine aw_istore_n (lv2 := [(2, _), (0, _), (1, _)]) dX11_readBits_21 (by decide) rfl ?_
    refine aw_iload_n dX11_readBits_22 rfl ?_
    refine aw_bipush (v := 8) dX11_readBits_23 (by decide) ?_
    refine aw_irem dX11_readBits_25 (by decide) ?_
    refine aw_if_ne (tgt := 49) dX11_readBits_26 (by decide) (fun c26 => ?_) (fun c26 => ?_)
    · replace hE := fif hE c26
      exact aw_lv _ (List.forall_mem_cons.mpr ⟨rfl, (List.forall_mem_cons.mpr ⟨rfl, (List.forall_mem_cons.mpr ⟨rfl, fun _ h => absurd h List.not_mem_nil⟩)⟩)⟩) (b_X11_readBits_49 mo mw ms mt mu dd wi hi sp ta li sr co hb n hms k2 hk2 v1 (v1 - v1 / (mr_gw mr) * (mr_gw mr)) mr gt _ hE hF)
    · replace hE := fit hE c26
      refine aw_aload_n dX11_readBits_29 rfl ?_
      refine aw_iconst (v := 1) dX11_readBits_30 (by decide) ?_
      refine aw_callV dX11_readBits_31 at_mod cvX11_103 rfl (kF_X11_want mo mw mr ms mt mu dd wi hi gt sp ta li sr co hb _  1 (fon_ne hE hF)) rfl (Nat.le_of_ble_eq_true rfl) (by decide) (by decide) (by decide) (by decide) (fun _ _ _ hf => False.elim hf) (fun r31 h31 n31 hp31 => ?_)
      obtain ⟨z31, s31, e31, rfl, rfl, rfl⟩ := hp31
      replace hE := fon_ok e31 hE
      refine aw_if_ne (tgt := 39) dX11_readBits_34 (by decide) (fun c34 => ?_) (fun c34 => ?_)
      · replace hE := fif hE c34
        refine aw_aload_n dX11_readBits_39 rfl ?_
        refine aw_dup dX11_readBits_40 rfl ?_
        refine aw_getf (v := .int (mr_pos s31)) dX11_readBits_41 flX11_84_10 at_mod rfl ?_
        refine aw_iconst (v := 1) dX11_readBits_44 (by decide) ?_
        refine aw_iadd dX11_readBits_45 ?_
        refine aw_putf dX11_readBits_46 ptX11_84_10 at_mod (Nat.le_of_ble_eq_true rfl) ⟨rfl, rfl⟩ ?_
        refine aw_eqh (h2 := HM mo mw ((mr_size s31), ((mr_pos s31) + 1), (mr_kind s31), (mr_whr s31), (mr_gw s31), (mr_gh s31), (mr_one s31), (mr_two s31), (mr_three s31)) ms mt mu dd wi hi gt sp ta li sr co hb) up_mod ?_
        exact aw_lv _ (List.forall_mem_cons.mpr ⟨rfl, (List.forall_mem_cons.mpr ⟨rfl, (List.forall_mem_cons.mpr ⟨rfl, fun _ h => absurd h List.not_mem_nil⟩)⟩)⟩) (b_X11_readBits_49 mo mw ms mt mu dd wi hi sp ta li sr co hb n hms k2 hk2 v1 (v1 - v1 / (mr_gw mr) * (mr_gw mr)) ((mr_size s31), ((mr_pos s31) + 1), (mr_kind s31), (mr_whr s31), (mr_gw s31), (mr_gh s31), (mr_one s31), (mr_two s31), (mr_three s31)) gt _ hE hF)
      · replace hE := fit hE c34
        refine aw_iconst (v := 0) dX11_readBits_37 (by decide) ?_
        exact aw_zret dX11_readBits_38 rfl (narB (by decide)) (Nat.zero_le _) (Nat.zero_le _) (Nat.zero_le _) (Nat.zero_le _) ⟨_, _, hE.symm, rfl, rfl, rfl⟩
def F_X11_readBits (sb : A) (mr : MR) (gt : A) : Out (MR × A) Int32 := lp (fun _ _ _ => fno) (F_X11_readBits_2 sb) FU (0 : Int32) mr gt
set_option maxHeartbeats 1000000 in
set_option maxRecDepth 100000 in
theorem kF_X11_readBits (mo : MO) (mw : MW) (mr : MR) (ms : Nat) (mt : A) (mu : A) (dd : A) (wi : A) (hi : A) (gt : A) (sp : A) (ta : A) (li : A) (sr : A) (co : A) (hb : aH) (n : Nat) (hms : isMS ms)  (hF : F_X11_readBits (srcB ms mt mu) mr gt ≠ fno) : AM mX11_readBits 3 [.ref 31] (HM mo mw mr ms mt mu dd wi hi gt sp ta li sr co hb) n 0 0 0 0 (P_X11_readBits mo mw ms mt mu dd wi hi sp ta li sr co hb n (F_X11_readBits (srcB ms mt mu) mr gt)) (fun _ _ _ => False) := by
  generalize hE : F_X11_readBits (srcB ms mt mu) mr gt = res at hF ⊢
  refine aw_of (by decide +kernel) rfl (Nat.le_of_ble_eq_true rfl) ?_
  unfold F_X11_readBits at hE
  refine aw_iconst (v := 0) dX11_readBits_0 (by decide) ?_
  refine aw_istore_n (lv2 := [(1, _), (0, _)]) dX11_readBits_1 (by decide) rfl ?_
  exact aw_lv _ (List.forall_mem_cons.mpr ⟨rfl, (List.forall_mem_cons.mpr ⟨rfl, fun _ h => absurd h List.not_mem_nil⟩)⟩) (lp_ind (Q_X11_readBits_2 mo mw ms mt mu dd wi hi sp ta li sr co hb n) (fun _ _ _ res hq hF => (hF hq.symm).elim) (fun k hk => b_X11_readBits_2 mo mw ms mt mu dd wi hi sp ta li sr co hb n hms  k hk) FU (0 : Int32) mr gt _ hE hF)
def P_X11_readSamples (mo : MO) (mw : MW) (ms : Nat) (mt : A) (mu : A) (dd : A) (wi : A) (hi : A) (sp : A) (ta : A) (li : A) (sr : A) (co : A) (hb : aH) (n : Nat) (res : Out (MR × A) Int32) : Option Value → aH → Nat → Prop := fun r1 h2 n2 => ∃ (a : Int32) (s : (MR × A)), res = fok a s ∧ r1 = some (.int a) ∧ h2 = HM mo mw s.1 ms mt mu dd wi hi s.2 sp ta li sr co hb ∧ n = n2
abbrev Q_X11_readSamples_13 (mo : MO) (mw : MW) (ms : Nat) (mt : A) (mu : A) (dd : A) (wi : A) (hi : A) (sp : A) (ta : A) (li : A) (sr : A) (co : A) (hb : aH) (n : Nat) (k : Int32 → MR → A → Out (MR × A) Int32) : Prop := ∀ (t0 : Int32) (mr : MR) (gt : A) (res : Out (MR × A) Int32), k t0 mr gt = res → res ≠ fno → AW (fun _ _ => True) mX11_readSamples (rmD 3 0 0) 0 0 (P_X11_readSamples mo mw ms mt mu dd wi hi sp ta li sr co hb n res) (fun _ _ _ => False) 0 0 13 [(0, .ref 31)] [.int t0] (HM mo mw mr ms mt mu dd wi hi gt sp ta li sr co hb) n
abbrev Q_X11_readSamples_29 (mo : MO) (mw : MW) (ms : Nat) (mt : A) (mu : A) (dd : A) (wi : A) (hi : A) (sp : A) (ta : A) (li : A) (sr : A) (co : A) (hb : aH) (n : Nat) (k : Int32 → Int32 → MR → A → Out (MR × A) Int32) : Prop := ∀ (v1 : Int32) (t0 : Int32) (mr : MR) (gt : A) (res : Out (MR × A) Int32), k v1 t0 mr gt = res → res ≠ fno → AW (fun _ _ => True) mX11_readSamples (rmD 3 0 0) 0 0 (P_X11_readSamples mo mw ms mt mu dd wi hi sp ta li sr co hb n res) (fun _ _ _ => False) 0 0 29 [(0, .ref 31), (1, .int v1)] [.int t0] (HM mo mw mr ms mt mu dd wi hi gt sp ta li sr co hb) n
abbrev Q_X11_readSamples_32 (mo : MO) (mw : MW) (ms : Nat) (mt : A) (mu : A) (dd : A) (wi : A) (hi : A) (sp : A) (ta : A) (li : A) (sr : A) (co : A) (hb : aH) (n : Nat) (k : Int32 → Int32 → Int32 → MR → A → Out (MR × A) Int32) : Prop := ∀ (v1 : Int32) (v2 : Int32) (v3 : Int32) (mr : MR) (gt : A) (res : Out (MR × A) Int32), k v1 v2 v3 mr gt = res → res ≠ fno → AW (fun _ _ => True) mX11_readSamples (rmD 3 0 0) 0 0 (P_X11_readSamples mo mw ms mt mu dd wi hi sp ta li sr co hb n res) (fun _ _ _ => False) 0 0 32 [(0, .ref 31), (1, .int v1), (2, .int v2), (3, .int v3)] [] (HM mo mw mr ms mt mu dd wi hi gt sp ta li sr co hb) n
abbrev Q_X11_readSamples_51 (mo : MO) (mw : MW) (ms : Nat) (mt : A) (mu : A) (dd : A) (wi : A) (hi : A) (sp : A) (ta : A) (li : A) (sr : A) (co : A) (hb : aH) (n : Nat) (k : Int32 → Int32 → Int32 → Int32 → Int32 → MR → A → Out (MR × A) Int32) : Prop := ∀ (v1 : Int32) (v2 : Int32) (v3 : Int32) (v4 : Int32) (v5 : Int32) (mr : MR) (gt : A) (res : Out (MR × A) Int32), k v1 v2 v3 v4 v5 mr gt = res → res ≠ fno → AW (fun _ _ => True) mX11_readSamples (rmD 3 0 0) 0 0 (P_X11_readSamples mo mw ms mt mu dd wi hi sp ta li sr co hb n res) (fun _ _ _ => False) 0 0 51 [(0, .ref 31), (1, .int v1), (2, .int v2), (3, .int v3), (4, .int v4), (5, .int v5)] [] (HM mo mw mr ms mt mu dd wi hi gt sp ta li sr co hb) n
abbrev Q_X11_readSamples_159 (mo : MO) (mw : MW) (ms : Nat) (mt : A) (mu : A) (dd : A) (wi : A) (hi : A) (sp : A) (ta : A) (li : A) (sr : A) (co : A) (hb : aH) (n : Nat) (k : Int32 → Int32 → Int32 → Int32 → Int32 → MR → A → Out (MR × A) Int32) : Prop := ∀ (v1 : Int32) (v2 : Int32) (v3 : Int32) (t0 : Int32) (t1 : Int32) (mr : MR) (gt : A) (res : Out (MR × A) Int32), k v1 v2 v3 t0 t1 mr gt = res → res ≠ fno → AW (fun _ _ => True) mX11_readSamples (rmD 3 0 0) 0 0 (P_X11_readSamples mo mw ms mt mu dd wi hi sp ta li sr co hb n res) (fun _ _ _ => False) 0 0 159 [(0, .ref 31), (1, .int v1), (2, .int v2), (3, .int v3)] [.int t0, .int t1, .ref 37] (HM mo mw mr ms mt mu dd wi hi gt sp ta li sr co hb) n
def F_X11_readSamples_159 (sb : A) (k32 : Int32 → Int32 → Int32 → MR → A → Out (MR × A) Int32) (v1 : Int32) (v2 : Int32) (v3 : Int32) (t0 : Int32) (t1 : Int32) (mr : MR) (gt : A) : Out (MR × A) Int32 := if inb t1 4096 then (k32 v1 v2 (v3 + 1) mr (upd gt (Int32.toNatClampNeg t1) t0)) else fno
set_option maxHeartbeats 1000000 in
set_option maxRecDepth 100000 in
theorem b_X11_readSamples_159 (mo : MO) (mw : MW) (ms : Nat) (mt : A) (mu : A) (dd : A) (wi : A) (hi : A) (sp : A) (ta : A) (li : A) (sr : A) (co : A) (hb : aH) (n : Nat) (hms : isMS ms) (k32 : Int32 → Int32 → Int32 → MR → A → Out (MR × A) Int32) (hk32 : Q_X11_readSamples_32 mo mw ms mt mu dd wi hi sp ta li sr co hb n k32) : Q_X11_readSamples_159 mo mw ms mt mu dd wi hi sp ta li sr co hb n (F_X11_readSamples_159 (srcB ms mt mu) k32) := by
  intro v1 v2 v3 t0 t1 mr gt res hE hF
  unfold F_X11_readSamples_159 at hE
  obtain ⟨g159, hE⟩ := fgd hE hF
  refine aw_iast (f := gt) dX11_readSamples_159 at_mgot (vp_in_iff.mpr g159) ?_
  refine aw_eqh (h2 := HM mo mw mr ms mt mu dd wi hi (upd gt (Int32.toNatClampNeg t1) t0) sp ta li sr co hb) up_mgot ?_
  refine aw_iinc (v := (v3 + 1)) (lv2 := [(3, _), (0, _), (1, _), (2, _)]) dX11_readSamples_160 rfl (incE (by decide)) (by decide) rfl ?_
  refine aw_goto (tgt := 32) dX11_readSamples_163 (by decide) ?_
  exact aw_lv _ (List.forall_mem_cons.mpr ⟨rfl, (List.forall_mem_cons.mpr ⟨rfl, (List.forall_mem_cons.mpr ⟨rfl, (List.forall_mem_cons.mpr ⟨rfl, fun _ h => absurd h List.not_mem_nil⟩)⟩)⟩)⟩) (hk32 v1 v2 (v3 + 1) mr (upd gt (Int32.toNatClampNeg t1) t0) _ hE hF)
def F_X11_readSamples_51 (sb : A) (k32 : Int32 → Int32 → Int32 → MR → A → Out (MR × A) Int32) (k51 : Int32 → Int32 → Int32 → Int32 → Int32 → MR → A → Out (MR × A) Int32) (v1 : Int32) (v2 : Int32) (v3 : Int32) (v4 : Int32) (v5 : Int32) (mr : MR) (gt : A) : Out (MR × A) Int32 := if v1 ≤ v5 then (if v1 = 1 then (F_X11_readSamples_159 sb k32 v1 v2 v3 (F_X11_gray v4) v3 mr gt) else (F_X11_readSamples_159 sb k32 v1 v2 v3 ((v4 <<< ((8 : Int32) &&& 31)) ||| 255) v3 mr gt)) else (fon (F_X11_want v2 mr) (fun z59 s59 => if z59 = 0 then (fok (0 : Int32) (s59, gt)) else (fon (F_X11_top (mr_pos s59) v2 sb) (fun z73 s73 => if (z73).toInt32 ≤ (mr_two s59) then (fon (F_X11_scaled ((z73).toInt32) (mr_two s59)) (fun z110 s110 => k51 v1 v2 v3 ((v4 <<< ((8 : Int32) &&& 31)) ||| z110) (v5 + 1) ((mr_size s59), ((mr_pos s59) + v2), (mr_kind s59), (mr_whr s59), (mr_gw s59), (mr_gh s59), (mr_one s59), (mr_two s59), (mr_three s59)) gt) (fun _ _ => fno)) else (fon (F_X11_wrong 6 (mr_pos s59) s59) (fun z95 s95 => if isB z95 then (fok (z95 : Int32) (s95, gt)) else fno) (fun _ _ => fno))) (fun _ _ => fno))) (fun _ _ => fno))
set_option maxHeartbeats 1000000 in
set_option maxRecDepth 100000 in
theorem b_X11_readSamples_51 (mo : MO) (mw : MW) (ms : Nat) (mt : A) (mu : A) (dd : A) (wi : A) (hi : A) (sp : A) (ta : A) (li : A) (sr : A) (co : A) (hb : aH) (n : Nat) (hms : isMS ms) (k32 : Int32 → Int32 → Int32 → MR → A → Out (MR × A) Int32) (hk32 : Q_X11_readSamples_32 mo mw ms mt mu dd wi hi sp ta li sr co hb n k32) (k51 : Int32 → Int32 → Int32 → Int32 → Int32 → MR → A → Out (MR × A) Int32) (hk51 : Q_X11_readSamples_51 mo mw ms mt mu dd wi hi sp ta li sr co hb n k51) : Q_X11_readSamples_51 mo mw ms mt mu dd wi hi sp ta li sr co hb n (F_X11_readSamples_51 (srcB ms mt mu) k32 k51) := by
  intro v1 v2 v3 v4 v5 mr gt res hE hF
  unfold F_X11_readSamples_51 at hE
  refine aw_iload dX11_readSamples_51 rfl ?_
  refine aw_iload_n dX11_readSamples_53 rfl ?_
  refine aw_icmp_ge (tgt := 132) dX11_readSamples_54 (by decide) (fun c54 => ?_) (fun c54 => ?_)
  · replace hE := fit hE c54
    refine aw_aload_n dX11_readSamples_132 rfl ?_
    refine aw_getf (v := .ref 37) dX11_readSamples_133 flX11_27_10 at_mod rfl ?_
    refine aw_iload_n dX11_readSamples_136 rfl ?_
    refine aw_iload_n dX11_readSamples_137 rfl ?_
    refine aw_iconst (v := 1) dX11_readSamples_138 (by decide) ?_
    refine aw_icmp_ne (tgt := 150) dX11_readSamples_139 (by decide) (fun c139 => ?_) (fun c139 => ?_)
    · replace hE := fif hE c139
      refine aw_iload dX11_readSamples_150 rfl ?_
      refine aw_bipush (v := 8) dX11_readSamples_152 (by decide) ?_
      refine aw_ishl dX11_readSamples_154 ?_
      refine aw_sipush (v := 255) dX11_readSamples_155 (by decide) ?_
      refine aw_ior dX11_readSamples_158 ?_
      exact aw_lv _ (List.forall_mem_cons.mpr ⟨rfl, (List.forall_mem_cons.mpr ⟨rfl, (List.forall_mem_cons.mpr ⟨rfl, (List.forall_mem_cons.mpr ⟨rfl, fun _ h => absurd h List.not_mem_nil⟩)⟩)⟩)⟩) (b_X11_readSamples_159 mo mw ms mt mu dd wi hi sp ta li sr co hb n hms k32 hk32 v1 v2 v3 ((v4 <<< ((8 : Int32) &&& 31)) ||| 255) v3 mr gt _ hE hF)
    · replace hE := fit hE c139
      refine aw_iload dX11_readSamples_142 rfl ?_
      refine aw_callS dX11_readSamples_144  csX11_176 rfl (kF_X11_gray _ _ v4) rfl (Nat.le_of_ble_eq_true rfl) (by decide) (by decide) (by decide) (by decide) (fun _ _ _ hf => False.elim hf) (fun r144 h144 n144 hp144 => ?_)
      obtain ⟨rfl, rfl, rfl⟩ := hp144
      refine aw_goto (tgt := 159) dX11_readSamples_147 (by decide) ?_
      exact aw_lv _ (List.forall_mem_cons.mpr ⟨rfl, (List.forall_mem_cons.mpr ⟨rfl, (List.forall_mem_cons.mpr ⟨rfl, (List.forall_mem_cons.mpr ⟨rfl, fun _ h => absurd h List.not_mem_nil⟩)⟩)⟩)⟩) (b_X11_readSamples_159 mo mw ms mt mu dd wi hi sp ta li sr co hb n hms k32 hk32 v1 v2 v3 (F_X11_gray v4) v3 mr gt _ hE hF)
  · replace hE := fif hE c54
    refine aw_aload_n dX11_readSamples_57 rfl ?_
    refine aw_iload_n dX11_readSamples_58 rfl ?_
    refine aw_callV dX11_readSamples_59 at_mod cvX11_103 rfl (kF_X11_want mo mw mr ms mt mu dd wi hi gt sp ta li sr co hb _  v2 (fon_ne hE hF)) rfl (Nat.le_of_ble_eq_true rfl) (by decide) (by decide) (by decide) (by decide) (fun _ _ _ hf => False.elim hf) (fun r59 h59 n59 hp59 => ?_)
    obtain ⟨z59, s59, e59, rfl, rfl, rfl⟩ := hp59
    replace hE := fon_ok e59 hE
    refine aw_if_ne (tgt := 67) dX11_readSamples_62 (by decide) (fun c62 => ?_) (fun c62 => ?_)
    · replace hE := fif hE c62
      refine aw_aload_n dX11_readSamples_67 rfl ?_
      refine aw_aload_n dX11_readSamples_68 rfl ?_
      refine aw_getf (v := .int (mr_pos s59)) dX11_readSamples_69 flX11_84_10 at_mod rfl ?_
      refine aw_iload_n dX11_readSamples_72 rfl ?_
      refine aw_callV dX11_readSamples_73 at_mod cvX11_122 rfl (kF_X11_top mo mw s59 ms mt mu dd wi hi gt sp ta li sr co hb _ hms (mr_pos s59) v2 (fon_ne hE hF)) rfl (Nat.le_of_ble_eq_true rfl) (by decide) (by decide) (by decide) (by decide) (fun _ _ _ hf => False.elim hf) (fun r73 h73 n73 hp73 => ?_)
      obtain ⟨z73, s73, e73, rfl, rfl, rfl⟩ := hp73
      replace hE := fon_ok e73 hE
      refine aw_l2i dX11_readSamples_76 ?_
      refine aw_istore (lv2 := [(6, _), (0, _), (1, _), (2, _), (3, _), (4, _), (5, _)]) dX11_readSamples_77 (by decide) rfl ?_
      refine aw_iload dX11_readSamples_79 rfl ?_
      refine aw_aload_n dX11_readSamples_81 rfl ?_
      refine aw_getf (v := .int (mr_two s59)) dX11_readSamples_82 flX11_133_10 at_mod rfl ?_
      refine aw_icmp_le (tgt := 99) dX11_readSamples_85 (by decide) (fun c85 => ?_) (fun c85 => ?_)
      · replace hE := fit hE c85
        refine aw_iload dX11_readSamples_99 rfl ?_
        refine aw_bipush (v := 8) dX11_readSamples_101 (by decide) ?_
        refine aw_ishl dX11_readSamples_103 ?_
        refine aw_iload dX11_readSamples_104 rfl ?_
        refine aw_aload_n dX11_readSamples_106 rfl ?_
        refine aw_getf (v := .int (mr_two s59)) dX11_readSamples_107 flX11_133_10 at_mod rfl ?_
        refine aw_callS dX11_readSamples_110  csX11_179 rfl (kF_X11_scaled mo mw s59 ms mt mu dd wi hi gt sp ta li sr co hb _  ((z73).toInt32) (mr_two s59) (fon_ne hE hF)) rfl (Nat.le_of_ble_eq_true rfl) (by decide) (by decide) (by decide) (by decide) (fun _ _ _ hf => False.elim hf) (fun r110 h110 n110 hp110 => ?_)
        obtain ⟨z110, s110, e110, rfl, rfl, rfl⟩ := hp110
        replace hE := fon_ok e110 hE
        refine aw_ior dX11_readSamples_113 ?_
        refine aw_istore (lv2 := [(4, _), (6, _), (0, _), (1, _), (2, _), (3, _), (5, _)]) dX11_readSamples_114 (by decide) rfl ?_
        refine aw_aload_n dX11_readSamples_116 rfl ?_
        refine aw_dup dX11_readSamples_117 rfl ?_
        refine aw_getf (v := .int (mr_pos s59)) dX11_readSamples_118 flX11_84_10 at_mod rfl ?_
        refine aw_iload_n dX11_readSamples_121 rfl ?_
        refine aw_iadd dX11_readSamples_122 ?_
        refine aw_putf dX11_readSamples_123 ptX11_84_10 at_mod (Nat.le_of_ble_eq_true rfl) ⟨rfl, rfl⟩ ?_
        refine aw_eqh (h2 := HM mo mw ((mr_size s59), ((mr_pos s59) + v2), (mr_kind s59), (mr_whr s59), (mr_gw s59), (mr_gh s59), (mr_one s59), (mr_two s59), (mr_three s59)) ms mt mu dd wi hi gt sp ta li sr co hb) up_mod ?_
        refine aw_iinc (v := (v5 + 1)) (lv2 := [(5, _), (4, _), (6, _), (0, _), (1, _), (2, _), (3, _)]) dX11_readSamples_126 rfl (incE (by decide)) (by decide) rfl ?_
        refine aw_goto (tgt := 51) dX11_readSamples_129 (by decide) ?_
        exact aw_lv _ (List.forall_mem_cons.mpr ⟨rfl, (List.forall_mem_cons.mpr ⟨rfl, (List.forall_mem_cons.mpr ⟨rfl, (List.forall_mem_cons.mpr ⟨rfl, (List.forall_mem_cons.mpr ⟨rfl, (List.forall_mem_cons.mpr ⟨rfl, fun _ h => absurd h List.not_mem_nil⟩)⟩)⟩)⟩)⟩)⟩) (hk51 v1 v2 v3 ((v4 <<< ((8 : Int32) &&& 31)) ||| z110) (v5 + 1) ((mr_size s59), ((mr_pos s59) + v2), (mr_kind s59), (mr_whr s59), (mr_gw s59), (mr_gh s59), (mr_one s59), (mr_two s59), (mr_three s59)) gt _ hE hF)
      · replace hE := fif hE c85
        refine aw_aload_n dX11_readSamples_88 rfl ?_
        refine aw_bipush (v := 6) dX11_readSamples_89 (by decide) ?_
        refine aw_aload_n dX11_readSamples_91 rfl ?_
        refine aw_getf (v := .int (mr_pos s59)) dX11_readSamples_92 flX11_84_10 at_mod rfl ?_
        refine aw_callV dX11_readSamples_95 at_mod cvX11_90 rfl (kF_X11_wrong mo mw s59 ms mt mu dd wi hi gt sp ta li sr co hb _  6 (mr_pos s59) (fon_ne hE hF)) rfl (Nat.le_of_ble_eq_true rfl) (by decide) (by decide) (by decide) (by decide) (fun _ _ _ hf => False.elim hf) (fun r95 h95 n95 hp95 => ?_)
        obtain ⟨z95, s95, e95, rfl, rfl, rfl⟩ := hp95
        replace hE := fon_ok e95 hE
        obtain ⟨g98, hE⟩ := fgd hE hF
        exact aw_zret dX11_readSamples_98 rfl (narB g98) (Nat.zero_le _) (Nat.zero_le _) (Nat.zero_le _) (Nat.zero_le _) ⟨_, _, hE.symm, rfl, rfl, rfl⟩
    · replace hE := fit hE c62
      refine aw_iconst (v := 0) dX11_readSamples_65 (by decide) ?_
      exact aw_zret dX11_readSamples_66 rfl (narB (by decide)) (Nat.zero_le _) (Nat.zero_le _) (Nat.zero_le _) (Nat.zero_le _) ⟨_, _, hE.symm, rfl, rfl, rfl⟩
def F_X11_readSamples_32 (sb : A) (k32 : Int32 → Int32 → Int32 → MR → A → Out (MR × A) Int32) (v1 : Int32) (v2 : Int32) (v3 : Int32) (mr : MR) (gt : A) : Out (MR × A) Int32 := if ((mr_gw mr) * (mr_gh mr)) ≤ v3 then (fon (F_X11_closes mr) (fun z167 s167 => if isB z167 then (fok (z167 : Int32) (s167, gt)) else fno) (fun _ _ => fno)) else (lp (fun _ _ _ _ _ _ _ => fno) (F_X11_readSamples_51 sb k32) FU v1 v2 v3 (0 : Int32) (0 : Int32) mr gt)
set_option maxHeartbeats 1000000 in
set_option maxRecDepth 100000 in
theorem b_X11_readSamples_32 (mo : MO) (mw : MW) (ms : Nat) (mt : A) (mu : A) (dd : A) (wi : A) (hi : A) (sp : A) (ta : A) (li : A) (sr : A) (co : A) (hb : aH) (n : Nat) (hms : isMS ms) (k32 : Int32 → Int32 → Int32 → MR → A → Out (MR × A) Int32) (hk32 : Q_X11_readSamples_32 mo mw ms mt mu dd wi hi sp ta li sr co hb n k32) : Q_X11_readSamples_32 mo mw ms mt mu dd wi hi sp ta li sr co hb n (F_X11_readSamples_32 (srcB ms mt mu) k32) := by
  intro v1 v2 v3 mr gt res hE hF
  unfold F_X11_readSamples_32 at hE
  refine aw_iload_n dX11_readSamples_32 rfl ?_
  refine aw_aload_n dX11_readSamples_33 rfl ?_
  refine aw_getf (v := .int (mr_gw mr)) dX11_readSamples_34 flX11_109_10 at_mod rfl ?_
  refine aw_aload_n dX11_readSamples_37 rfl ?_
  refine aw_getf (v := .int (mr_gh mr)) dX11_readSamples_38 flX11_112_10 at_mod rfl ?_
  refine aw_imul dX11_readSamples_41 ?_
  refine aw_icmp_ge (tgt := 166) dX11_readSamples_42 (by decide) (fun c42 => ?_) (fun c42 => ?_)
  · replace hE := fit hE c42
    refine aw_aload_n dX11_readSamples_166 rfl ?_
    refine aw_callV dX11_readSamples_167 at_mod cvX11_145 rfl (kF_X11_closes mo mw mr ms mt mu dd wi hi gt sp ta li sr co hb _   (fon_ne hE hF)) rfl (Nat.le_of_ble_eq_true rfl) (by decide) (by decide) (by decide) (by decide) (fun _ _ _ hf => False.elim hf) (fun r167 h167 n167 hp167 => ?_)
    obtain ⟨z167, s167, e167, rfl, rfl, rfl⟩ := hp167
    replace hE := fon_ok e167 hE
    obtain ⟨g170, hE⟩ := fgd hE hF
    exact aw_zret dX11_readSamples_170 rfl (narB g170) (Nat.zero_le _) (Nat.zero_le _) (Nat.zero_le _) (Nat.zero_le _) ⟨_, _, hE.symm, rfl, rfl, rfl⟩
  · replace hE := fif hE c42
    refine aw_iconst (v := 0) dX11_readSamples_45 (by decide) ?_
    refine aw_istore (lv2 := [(4, _), (0, _), (1, _), (2, _), (3, _)]) dX11_readSamples_46 (by decide) rfl ?_
    refine aw_iconst (v := 0) dX11_readSamples_48 (by decide) ?_
    refine aw_istore (lv2 := [(5, _), (4, _), (0, _), (1, _), (2, _), (3, _)]) dX11_readSamples_49 (by decide) rfl ?_
    exact aw_lv _ (List.forall_mem_cons.mpr ⟨rfl, (List.forall_mem_cons.mpr ⟨rfl, (List.forall_mem_cons.mpr ⟨rfl, (List.forall_mem_cons.mpr ⟨rfl, (List.forall_mem_cons.mpr ⟨rfl, (List.forall_mem_cons.mpr ⟨rfl, fun _ h => absurd h List.not_mem_nil⟩)⟩)⟩)⟩)⟩)⟩) (lp_ind (Q_X11_readSamples_51 mo mw ms mt mu dd wi hi sp ta li sr co hb n) (fun _ _ _ _ _ _ _ res hq hF => (hF hq.symm).elim) (fun k hk => b_X11_readSamples_51 mo mw ms mt mu dd wi hi sp ta li sr co hb n hms k32 hk32 k hk) FU v1 v2 v3 (0 : Int32) (0 : Int32) mr gt _ hE hF)
def F_X11_readSamples_29 (sb : A)  (v1 : Int32) (t0 : Int32) (mr : MR) (gt : A) : Out (MR × A) Int32 := lp (fun _ _ _ _ _ => fno) (F_X11_readSamples_32 sb) FU v1 t0 (0 : Int32) mr gt
set_option maxHeartbeats 1000000 in
set_option maxRecDepth 100000 in
theorem b_X11_readSamples_29 (mo : MO) (mw : MW) (ms : Nat) (mt : A) (mu : A) (dd : A) (wi : A) (hi : A) (sp : A) (ta : A) (li : A) (sr : A) (co : A) (hb : aH) (n : Nat) (hms : isMS ms)  : Q_X11_readSamples_29 mo mw ms mt mu dd wi hi sp ta li sr co hb n (F_X11_readSamples_29 (srcB ms mt mu)) := by
  intro v1 t0 mr gt res hE hF
  unfold F_X11_readSamples_29 at hE
  refine aw_istore_n (lv2 := [(2, _), (0, _), (1, _)]) dX11_readSamples_29 (by decide) rfl ?_
  refine aw_iconst (v := 0) dX11_readSamples_30 (by decide) ?_
  refine aw_istore_n (lv2 := [(3, _), (2, _), (0, _), (1, _)]) dX11_readSamples_31 (by decide) rfl ?_
  exact aw_lv _ (List.forall_mem_cons.mpr ⟨rfl, (List.forall_mem_cons.mpr ⟨rfl, (List.forall_mem_cons.mpr ⟨rfl, (List.forall_mem_cons.mpr ⟨rfl, fun _ h => absurd h List.not_mem_nil⟩)⟩)⟩)⟩) (lp_ind (Q_X11_readSamples_32 mo mw ms mt mu dd wi hi sp ta li sr co hb n) (fun _ _ _ _ _ res hq hF => (hF hq.symm).elim) (fun k hk => b_X11_readSamples_32 mo mw ms mt mu dd wi hi sp ta li sr co hb n hms  k hk) FU v1 t0 (0 : Int32) mr gt _ hE hF)
def F_X11_readSamples_13 (sb : A)  (t0 : Int32) (mr : MR) (gt : A) : Out (MR × A) Int32 := if 256 ≤ (mr_two mr) then (F_X11_readSamples_29 sb t0 (2 : Int32) mr gt) else (F_X11_readSamples_29 sb t0 (1 : Int32) mr gt)
set_option maxHeartbeats 1000000 in
set_option maxRecDepth 100000 in
theorem b_X11_readSamples_13 (mo : MO) (mw : MW) (ms : Nat) (mt : A) (mu : A) (dd : A) (wi : A) (hi : A) (sp : A) (ta : A) (li : A) (sr : A) (co : A) (hb : aH) (n : Nat) (hms : isMS ms)  : Q_X11_readSamples_13 mo mw ms mt mu dd wi hi sp ta li sr co hb n (F_X11_readSamples_13 (srcB ms mt mu)) := by
  intro t0 mr gt res hE hF
  unfold F_X11_readSamples_13 at hE
  refine aw_istore_n (lv2 := [(1, _), (0, _)]) dX11_readSamples_13 (by decide) rfl ?_
  refine aw_aload_n dX11_readSamples_14 rfl ?_
  refine aw_getf (v := .int (mr_two mr)) dX11_readSamples_15 flX11_133_10 at_mod rfl ?_
  refine aw_sipush (v := 256) dX11_readSamples_18 (by decide) ?_
  refine aw_icmp_ge (tgt := 28) dX11_readSamples_21 (by decide) (fun c21 => ?_) (fun c21 => ?_)
  · replace hE := fit hE c21
    refine aw_iconst (v := 2) dX11_readSamples_28 (by decide) ?_
    exact aw_lv _ (List.forall_mem_cons.mpr ⟨rfl, (List.forall_mem_cons.mpr ⟨rfl, fun _ h => absurd h List.not_mem_nil⟩)⟩) (b_X11_readSamples_29 mo mw ms mt mu dd wi hi sp ta li sr co hb n hms  t0 (2 : Int32) mr gt _ hE hF)
  · replace hE := fif hE c21
    refine aw_iconst (v := 1) dX11_readSamples_24 (by decide) ?_
    refine aw_goto (tgt := 29) dX11_readSamples_25 (by decide) ?_
    exact aw_lv _ (List.forall_mem_cons.mpr ⟨rfl, (List.forall_mem_cons.mpr ⟨rfl, fun _ h => absurd h List.not_mem_nil⟩)⟩) (b_X11_readSamples_29 mo mw ms mt mu dd wi hi sp ta li sr co hb n hms  t0 (1 : Int32) mr gt _ hE hF)
def F_X11_readSamples (sb : A) (mr : MR) (gt : A) : Out (MR × A) Int32 := if (mr_one mr) = 5 then (F_X11_readSamples_13 sb (1 : Int32) mr gt) else (F_X11_readSamples_13 sb (3 : Int32) mr gt)
set_option maxHeartbeats 1000000 in
set_option maxRecDepth 100000 in
theorem kF_X11_readSamples (mo : MO) (mw : MW) (mr : MR) (ms : Nat) (mt : A) (mu : A) (dd : A) (wi : A) (hi : A) (gt : A) (sp : A) (ta : A) (li : A) (sr : A) (co : A) (hb : aH) (n : Nat) (hms : isMS ms)  (hF : F_X11_readSamples (srcB ms mt mu) mr gt ≠ fno) : AM mX11_readSamples 3 [.ref 31] (HM mo mw mr ms mt mu dd wi hi gt sp ta li sr co hb) n 0 0 0 0 (P_X11_readSamples mo mw ms mt mu dd wi hi sp ta li sr co hb n (F_X11_readSamples (srcB ms mt mu) mr gt)) (fun _ _ _ => False) := by
  generalize hE : F_X11_readSamples (srcB ms mt mu) mr gt = res at hF ⊢
  refine aw_of (by decide +kernel) rfl (Nat.le_of_ble_eq_true rfl) ?_
  unfold F_X11_readSamples at hE
  refine aw_aload_n dX11_readSamples_0 rfl ?_
  refine aw_getf (v := .int (mr_one mr)) dX11_readSamples_1 flX11_130_10 at_mod rfl ?_
  refine aw_iconst (v := 5) dX11_readSamples_4 (by decide) ?_
  refine aw_icmp_ne (tgt := 12) dX11_readSamples_5 (by decide) (fun c5 => ?_) (fun c5 => ?_)
  · replace hE := fif hE c5
    refine aw_iconst (v := 3) dX11_readSamples_12 (by decide) ?_
    exact aw_lv _ (List.forall_mem_cons.mpr ⟨rfl, fun _ h => absurd h List.not_mem_nil⟩) (b_X11_readSamples_13 mo mw ms mt mu dd wi hi sp ta li sr co hb n hms  (3 : Int32) mr gt _ hE hF)
  · replace hE := fit hE c5
    refine aw_iconst (v := 1) dX11_readSamples_8 (by decide) ?_
    refine aw_goto (tgt := 13) dX11_readSamples_9 (by decide) ?_
    exact aw_lv _ (List.forall_mem_cons.mpr ⟨rfl, fun _ h => absurd h List.not_mem_nil⟩) (b_X11_readSamples_13 mo mw ms mt mu dd wi hi sp ta li sr co hb n hms  (1 : Int32) mr gt _ hE hF)
