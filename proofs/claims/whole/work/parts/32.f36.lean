def P_X11_readSigns (mo : MO) (mw : MW) (ms : Nat) (mt : A) (mu : A) (dd : A) (wi : A) (hi : A) (sp : A) (ta : A) (li : A) (sr : A) (co : A) (hb : aH) (n : Nat) (res : Out (MR × A) Int32) : Option Value → aH → Nat → Prop := fun r1 h2 n2 => ∃ (a : Int32) (s : (MR × A)), res = fok a s ∧ r1 = some (.int a) ∧ h2 = HM mo mw s.1 ms mt mu dd wi hi s.2 sp ta li sr co hb ∧ n = n2
abbrev Q_X11_readSigns_2 (mo : MO) (mw : MW) (ms : Nat) (mt : A) (mu : A) (dd : A) (wi : A) (hi : A) (sp : A) (ta : A) (li : A) (sr : A) (co : A) (hb : aH) (n : Nat) (k : Int32 → MR → A → Out (MR × A) Int32) : Prop := ∀ (v1 : Int32) (mr : MR) (gt : A) (res : Out (MR × A) Int32), k v1 mr gt = res → res ≠ fno → AW (fun _ _ => True) mX11_readSigns (rmD 4 0 0) 0 0 (P_X11_readSigns mo mw ms mt mu dd wi hi sp ta li sr co hb n res) (fun _ _ _ => False) 0 0 2 [(0, .ref 31), (1, .int v1)] [] (HM mo mw mr ms mt mu dd wi hi gt sp ta li sr co hb) n
abbrev Q_X11_readSigns_32 (mo : MO) (mw : MW) (ms : Nat) (mt : A) (mu : A) (dd : A) (wi : A) (hi : A) (sp : A) (ta : A) (li : A) (sr : A) (co : A) (hb : aH) (n : Nat) (k : Int32 → MR → A → Out (MR × A) Int32) : Prop := ∀ (v1 : Int32) (mr : MR) (gt : A) (res : Out (MR × A) Int32), k v1 mr gt = res → res ≠ fno → AW (fun _ _ => True) mX11_readSigns (rmD 4 0 0) 0 0 (P_X11_readSigns mo mw ms mt mu dd wi hi sp ta li sr co hb n res) (fun _ _ _ => False) 0 0 32 [(0, .ref 31), (1, .int v1)] [] (HM mo mw mr ms mt mu dd wi hi gt sp ta li sr co hb) n
abbrev Q_X11_readSigns_78 (mo : MO) (mw : MW) (ms : Nat) (mt : A) (mu : A) (dd : A) (wi : A) (hi : A) (sp : A) (ta : A) (li : A) (sr : A) (co : A) (hb : aH) (n : Nat) (k : Int32 → MR → A → Out (MR × A) Int32) : Prop := ∀ (v1 : Int32) (mr : MR) (gt : A) (res : Out (MR × A) Int32), k v1 mr gt = res → res ≠ fno → AW (fun _ _ => True) mX11_readSigns (rmD 4 0 0) 0 0 (P_X11_readSigns mo mw ms mt mu dd wi hi sp ta li sr co hb n res) (fun _ _ _ => False) 0 0 78 [(0, .ref 31), (1, .int v1)] [] (HM mo mw mr ms mt mu dd wi hi gt sp ta li sr co hb) n
abbrev Q_X11_readSigns_103 (mo : MO) (mw : MW) (ms : Nat) (mt : A) (mu : A) (dd : A) (wi : A) (hi : A) (sp : A) (ta : A) (li : A) (sr : A) (co : A) (hb : aH) (n : Nat) (k : Int32 → Int32 → Int32 → MR → A → Out (MR × A) Int32) : Prop := ∀ (v1 : Int32) (t0 : Int32) (t1 : Int32) (mr : MR) (gt : A) (res : Out (MR × A) Int32), k v1 t0 t1 mr gt = res → res ≠ fno → AW (fun _ _ => True) mX11_readSigns (rmD 4 0 0) 0 0 (P_X11_readSigns mo mw ms mt mu dd wi hi sp ta li sr co hb n res) (fun _ _ _ => False) 0 0 103 [(0, .ref 31), (1, .int v1)] [.int t0, .int t1, .ref 37] (HM mo mw mr ms mt mu dd wi hi gt sp ta li sr co hb) n
def F_X11_readSigns_103 (sb : A) (k2 : Int32 → MR → A → Out (MR × A) Int32) (v1 : Int32) (t0 : Int32) (t1 : Int32) (mr : MR) (gt : A) : Out (MR × A) Int32 := if inb t1 4096 then (k2 (v1 + 1) ((mr_size mr), ((mr_pos mr) + 1), (mr_kind mr), (mr_whr mr), (mr_gw mr), (mr_gh mr), (mr_one mr), (mr_two mr), (mr_three mr)) (upd gt (Int32.toNatClampNeg t1) (F_X11_gray t0))) else fno
set_option maxHeartbeats 1000000 in
set_option maxRecDepth 100000 in
theorem b_X11_readSigns_103 (mo : MO) (mw : MW) (ms : Nat) (mt : A) (mu : A) (dd : A) (wi : A) (hi : A) (sp : A) (ta : A) (li : A) (sr : A) (co : A) (hb : aH) (n : Nat) (hms : isMS ms) (k2 : Int32 → MR → A → Out (MR × A) Int32) (hk2 : Q_X11_readSigns_2 mo mw ms mt mu dd wi hi sp ta li sr co hb n k2) : Q_X11_readSigns_103 mo mw ms mt mu dd wi hi sp ta li sr co hb n (F_X11_readSigns_103 (srcB ms mt mu) k2) := by
  intro v1 t0 t1 mr gt res hE hF
  unfold F_X11_readSigns_103 at hE
  refine aw_callS dX11_readSigns_103  csX11_176 rfl (kF_X11_gray _ _ t0) rfl (Nat.le_of_ble_eq_true rfl) (by decide) (by decide) (by decide) (by decide) (fun _ _ _ hf => False.elim hf) (fun r103 h103 n103 hp103 => ?_)
  obtain ⟨rfl, rfl, rfl⟩ := hp103
  obtain ⟨g106, hE⟩ := fgd hE hF
  refine aw_iast (f := gt) dX11_readSigns_106 at_mgot (vp_in_iff.mpr g106) ?_
  refine aw_eqh (h2 := HM mo mw mr ms mt mu dd wi hi (upd gt (Int32.toNatClampNeg t1) (F_X11_gray t0)) sp ta li sr co hb) up_mgot ?_
  refine aw_aload_n dX11_readSigns_107 rfl ?_
  refine aw_dup dX11_readSigns_108 rfl ?_
  refine aw_getf (v := .int (mr_pos mr)) dX11_readSigns_109 flX11_84_10 at_mod rfl ?_
  refine aw_iconst (v := 1) dX11_readSigns_112 (by decide) ?_
  refine aw_iadd dX11_readSigns_113 ?_
  refine aw_putf dX11_readSigns_114 ptX11_84_10 at_mod (Nat.le_of_ble_eq_true rfl) ⟨rfl, rfl⟩ ?_
  refine aw_eqh (h2 := HM mo mw ((mr_size mr), ((mr_pos mr) + 1), (mr_kind mr), (mr_whr mr), (mr_gw mr), (mr_gh mr), (mr_one mr), (mr_two mr), (mr_three mr)) ms mt mu dd wi hi (upd gt (Int32.toNatClampNeg t1) (F_X11_gray t0)) sp ta li sr co hb) up_mod ?_
  refine aw_iinc (v := (v1 + 1)) (lv2 := [(1, _), (0, _)]) dX11_readSigns_117 rfl (incE (by decide)) (by decide) rfl ?_
  refine aw_goto (tgt := 2) dX11_readSigns_120 (by decide) ?_
  exact aw_lv _ (List.forall_mem_cons.mpr ⟨rfl, (List.forall_mem_cons.mpr ⟨rfl, fun _ h => absurd h List.not_mem_nil⟩)⟩) (hk2 (v1 + 1) ((mr_size mr), ((mr_pos mr) + 1), (mr_kind mr), (mr_whr mr), (mr_gw mr), (mr_gh mr), (mr_one mr), (mr_two mr), (mr_three mr)) (upd gt (Int32.toNatClampNeg t1) (F_X11_gray t0)) _ hE hF)
def F_X11_readSigns_78 (sb : A) (k2 : Int32 → MR → A → Out (MR × A) Int32) (v1 : Int32) (mr : MR) (gt : A) : Out (MR × A) Int32 := fon (F_X11_b (mr_pos mr) sb) (fun z88 s88 => if z88 = 49 then (F_X11_readSigns_103 sb k2 v1 (0 : Int32) v1 mr gt) else (F_X11_readSigns_103 sb k2 v1 (255 : Int32) v1 mr gt)) (fun _ _ => fno)
set_option maxHeartbeats 1000000 in
set_option maxRecDepth 100000 in
theorem b_X11_readSigns_78 (mo : MO) (mw : MW) (ms : Nat) (mt : A) (mu : A) (dd : A) (wi : A) (hi : A) (sp : A) (ta : A) (li : A) (sr : A) (co : A) (hb : aH) (n : Nat) (hms : isMS ms) (k2 : Int32 → MR → A → Out (MR × A) Int32) (hk2 : Q_X11_readSigns_2 mo mw ms mt mu dd wi hi sp ta li sr co hb n k2) : Q_X11_readSigns_78 mo mw ms mt mu dd wi hi sp ta li sr co hb n (F_X11_readSigns_78 (srcB ms mt mu) k2) := by
  intro v1 mr gt res hE hF
  unfold F_X11_readSigns_78 at hE
  refine aw_aload_n dX11_readSigns_78 rfl ?_
  refine aw_getf (v := .ref 37) dX11_readSigns_79 flX11_27_10 at_mod rfl ?_
  refine aw_iload_n dX11_readSigns_82 rfl ?_
  refine aw_aload_n dX11_readSigns_83 rfl ?_
  refine aw_aload_n dX11_readSigns_84 rfl ?_
  refine aw_getf (v := .int (mr_pos mr)) dX11_readSigns_85 flX11_84_10 at_mod rfl ?_
  refine aw_callV dX11_readSigns_88 at_mod cvX11_99 rfl (kF_X11_b mo mw mr ms mt mu dd wi hi gt sp ta li sr co hb _ hms (mr_pos mr) (fon_ne hE hF)) rfl (Nat.le_of_ble_eq_true rfl) (by decide) (by decide) (by decide) (by decide) (fun _ _ _ hf => False.elim hf) (fun r88 h88 n88 hp88 => ?_)
  obtain ⟨z88, s88, e88, rfl, rfl, rfl⟩ := hp88
  replace hE := fon_ok e88 hE
  refine aw_bipush (v := 49) dX11_readSigns_91 (by decide) ?_
  refine aw_icmp_ne (tgt := 100) dX11_readSigns_93 (by decide) (fun c93 => ?_) (fun c93 => ?_)
  · replace hE := fif hE c93
    refine aw_sipush (v := 255) dX11_readSigns_100 (by decide) ?_
    exact aw_lv _ (List.forall_mem_cons.mpr ⟨rfl, (List.forall_mem_cons.mpr ⟨rfl, fun _ h => absurd h List.not_mem_nil⟩)⟩) (b_X11_readSigns_103 mo mw ms mt mu dd wi hi sp ta li sr co hb n hms k2 hk2 v1 (255 : Int32) v1 mr gt _ hE hF)
  · replace hE := fit hE c93
    refine aw_iconst (v := 0) dX11_readSigns_96 (by decide) ?_
    refine aw_goto (tgt := 103) dX11_readSigns_97 (by decide) ?_
    exact aw_lv _ (List.forall_mem_cons.mpr ⟨rfl, (List.forall_mem_cons.mpr ⟨rfl, fun _ h => absurd h List.not_mem_nil⟩)⟩) (b_X11_readSigns_103 mo mw ms mt mu dd wi hi sp ta li sr co hb n hms k2 hk2 v1 (0 : Int32) v1 mr gt _ hE hF)
def F_X11_readSigns_32 (sb : A) (k2 : Int32 → MR → A → Out (MR × A) Int32) (v1 : Int32) (mr : MR) (gt : A) : Out (MR × A) Int32 := fon (F_X11_want 1 mr) (fun z34 s34 => if z34 = 0 then (fok (0 : Int32) (s34, gt)) else (fon (F_X11_b (mr_pos s34) sb) (fun z47 s47 => if z47 = 48 then (F_X11_readSigns_78 sb k2 v1 s34 gt) else (fon (F_X11_b (mr_pos s34) sb) (fun z60 s60 => if z60 = 49 then (F_X11_readSigns_78 sb k2 v1 s34 gt) else (fon (F_X11_wrong 2 (mr_pos s34) s34) (fun z74 s74 => if isB z74 then (fok (z74 : Int32) (s74, gt)) else fno) (fun _ _ => fno))) (fun _ _ => fno))) (fun _ _ => fno))) (fun _ _ => fno)
set_option maxHeartbeats 1000000 in
set_option maxRecDepth 100000 in
theorem b_X11_readSigns_32 (mo : MO) (mw : MW) (ms : Nat) (mt : A) (mu : A) (dd : A) (wi : A) (hi : A) (sp : A) (ta : A) (li : A) (sr : A) (co : A) (hb : aH) (n : Nat) (hms : isMS ms) (k2 : Int32 → MR → A → Out (MR × A) Int32) (hk2 : Q_X11_readSigns_2 mo mw ms mt mu dd wi hi sp ta li sr co hb n k2) : Q_X11_readSigns_32 mo mw ms mt mu dd wi hi sp ta li sr co hb n (F_X11_readSigns_32 (srcB ms mt mu) k2) := by
  intro v1 mr gt res hE hF
  unfold F_X11_readSigns_32 at hE
  refine aw_aload_n dX11_readSigns_32 rfl ?_
  refine aw_iconst (v := 1) dX11_readSigns_33 (by decide) ?_
  refine aw_callV dX11_readSigns_34 at_mod cvX11_103 rfl (kF_X11_want mo mw mr ms mt mu dd wi hi gt sp ta li sr co hb _  1 (fon_ne hE hF)) rfl (Nat.le_of_ble_eq_true rfl) (by decide) (by decide) (by decide) (by decide) (fun _ _ _ hf => False.elim hf) (fun r34 h34 n34 hp34 => ?_)
  obtain ⟨z34, s34, e34, rfl, rfl, rfl⟩ := hp34
  replace hE := fon_ok e34 hE
  refine aw_if_ne (tgt := 42) dX11_readSigns_37 (by decide) (fun c37 => ?_) (fun c37 => ?_)
  · replace hE := fif hE c37
    refine aw_aload_n dX11_readSigns_42 rfl ?_
    refine aw_aload_n dX11_readSigns_43 rfl ?_
    refine aw_getf (v := .int (mr_pos s34)) dX11_readSigns_44 flX11_84_10 at_mod rfl ?_
    refine aw_callV dX11_readSigns_47 at_mod cvX11_99 rfl (kF_X11_b mo mw s34 ms mt mu dd wi hi gt sp ta li sr co hb _ hms (mr_pos s34) (fon_ne hE hF)) rfl (Nat.le_of_ble_eq_true rfl) (by decide) (by decide) (by decide) (by decide) (fun _ _ _ hf => False.elim hf) (fun r47 h47 n47 hp47 => ?_)
    obtain ⟨z47, s47, e47, rfl, rfl, rfl⟩ := hp47
    replace hE := fon_ok e47 hE
    refine aw_bipush (v := 48) dX11_readSigns_50 (by decide) ?_
    refine aw_icmp_eq (tgt := 78) dX11_readSigns_52 (by decide) (fun c52 => ?_) (fun c52 => ?_)
    · replace hE := fit hE c52
      exact aw_lv _ (List.forall_mem_cons.mpr ⟨rfl, (List.forall_mem_cons.mpr ⟨rfl, fun _ h => absurd h List.not_mem_nil⟩)⟩) (b_X11_readSigns_78 mo mw ms mt mu dd wi hi sp ta li sr co hb n hms k2 hk2 v1 s34 gt _ hE hF)
    · replace hE := fif hE c52
      refine aw_aload_n dX11_readSigns_55 rfl ?_
      refine aw_aload_n dX11_readSigns_56 rfl ?_
      refine aw_getf (v := .int (mr_pos s34)) dX11_readSigns_57 flX11_84_10 at_mod rfl ?_
      refine aw_callV dX11_readSigns_60 at_mod cvX11_99 rfl (kF_X11_b mo mw s34 ms mt mu dd wi hi gt sp ta li sr co hb _ hms (mr_pos s34) (fon_ne hE hF)) rfl (Nat.le_of_ble_eq_true rfl) (by decide) (by decide) (by decide) (by decide) (fun _ _ _ hf => False.elim hf) (fun r60 h60 n60 hp60 => ?_)
      obtain ⟨z60, s60, e60, rfl, rfl, rfl⟩ := hp60
      replace hE := fon_ok e60 hE
      refine aw_bipush (v := 49) dX11_readSigns_63 (by decide) ?_
      refine aw_icmp_eq (tgt := 78) dX11_readSigns_65 (by decide) (fun c65 => ?_) (fun c65 => ?_)
      · replace hE := fit hE c65
        exact aw_lv _ (List.forall_mem_cons.mpr ⟨rfl, (List.forall_mem_cons.mpr ⟨rfl, fun _ h => absurd h List.not_mem_nil⟩)⟩) (b_X11_readSigns_78 mo mw ms mt mu dd wi hi sp ta li sr co hb n hms k2 hk2 v1 s34 gt _ hE hF)
      · replace hE := fif hE c65
        refine aw_aload_n dX11_readSigns_68 rfl ?_
        refine aw_iconst (v := 2) dX11_readSigns_69 (by decide) ?_
        refine aw_aload_n dX11_readSigns_70 rfl ?_
        refine aw_getf (v := .int (mr_pos s34)) dX11_readSigns_71 flX11_84_10 at_mod rfl ?_
        refine aw_callV dX11_readSigns_74 at_mod cvX11_90 rfl (kF_X11_wrong mo mw s34 ms mt mu dd wi hi gt sp ta li sr co hb _  2 (mr_pos s34) (fon_ne hE hF)) rfl (Nat.le_of_ble_eq_true rfl) (by decide) (by decide) (by decide) (by decide) (fun _ _ _ hf => False.elim hf) (fun r74 h74 n74 hp74 => ?_)
        obtain ⟨z74, s74, e74, rfl, rfl, rfl⟩ := hp74
        replace hE := fon_ok e74 hE
        obtain ⟨g77, hE⟩ := fgd hE hF
        exact aw_zret dX11_readSigns_77 rfl (narB g77) (Nat.zero_le _) (Nat.zero_le _) (Nat.zero_le _) (Nat.zero_le _) ⟨_, _, hE.symm, rfl, rfl, rfl⟩
  · replace hE := fit hE c37
    refine aw_iconst (v := 0) dX11_readSigns_40 (by decide) ?_
    exact aw_zret dX11_readSigns_41 rfl (narB (by decide)) (Nat.zero_le _) (Nat.zero_le _) (Nat.zero_le _) (Nat.zero_le _) ⟨_, _, hE.symm, rfl, rfl, rfl⟩
def F_X11_readSigns_2 (sb : A) (k2 : Int32 → MR → A → Out (MR × A) Int32) (v1 : Int32) (mr : MR) (gt : A) : Out (MR × A) Int32 := if ((mr_gw mr) * (mr_gh mr)) ≤ v1 then (fon (F_X11_skip sb mr) (fun z124 s124 => fon (F_X11_closes s124) (fun z128 s128 => if isB z128 then (fok (z128 : Int32) (s128, gt)) else fno) (fun _ _ => fno)) (fun _ _ => fno)) else (if v1 = 0 then (fon (F_X11_gap sb mr) (fun z20 s20 => if z20 = 0 then (fok (0 : Int32) (s20, gt)) else (F_X11_readSigns_32 sb k2 v1 s20 gt)) (fun _ _ => fno)) else (fon (F_X11_skip sb mr) (fun z29 s29 => F_X11_readSigns_32 sb k2 v1 s29 gt) (fun _ _ => fno)))
set_option maxHeartbeats 1000000 in
set_option maxRecDepth 100000 in
theorem b_X11_readSigns_2 (mo : MO) (mw : MW) (ms : Nat) (mt : A) (mu : A) (dd : A) (wi : A) (hi : A) (sp : A) (ta : A) (li : A) (sr : A) (co : A) (hb : aH) (n : Nat) (hms : isMS ms) (k2 : Int32 → MR → A → Out (MR × A) Int32) (hk2 : Q_X11_readSigns_2 mo mw ms mt mu dd wi hi sp ta li sr co hb n k2) : Q_X11_readSigns_2 mo mw ms mt mu dd wi hi sp ta li sr co hb n (F_X11_readSigns_2 (srcB ms mt mu) k2) := by
  intro v1 mr gt res hE hF
  unfold F_X11_readSigns_2 at hE
  refine aw_iload_n dX11_readSigns_2 rfl ?_
  refine aw_aload_n dX11_readSigns_3 rfl ?_
  refine aw_getf (v := .int (mr_gw mr)) dX11_readSigns_4 flX11_109_10 at_mod rfl ?_
  refine aw_aload_n dX11_readSigns_7 rfl ?_
  refine aw_getf (v := .int (mr_gh mr)) dX11_readSigns_8 flX11_112_10 at_mod rfl ?_
  refine aw_imul dX11_readSigns_11 ?_
  refine aw_icmp_ge (tgt := 123) dX11_readSigns_12 (by decide) (fun c12 => ?_) (fun c12 => ?_)
  · replace hE := fit hE c12
    refine aw_aload_n dX11_readSigns_123 rfl ?_
    refine aw_callV dX11_readSigns_124 at_mod cvX11_152 rfl (kF_X11_skip mo mw mr ms mt mu dd wi hi gt sp ta li sr co hb _ hms  (fon_ne hE hF)) rfl (Nat.le_of_ble_eq_true rfl) (by decide) (by decide) (by decide) (by decide) (fun _ _ _ hf => False.elim hf) (fun r124 h124 n124 hp124 => ?_)
    obtain ⟨z124, s124, e124, rfl, rfl, rfl⟩ := hp124
    replace hE := fon_ok e124 hE
    refine aw_aload_n dX11_readSigns_127 rfl ?_
    refine aw_callV dX11_readSigns_128 at_mod cvX11_145 rfl (kF_X11_closes mo mw s124 ms mt mu dd wi hi gt sp ta li sr co hb _   (fon_ne hE hF)) rfl (Nat.le_of_ble_eq_true rfl) (by decide) (by decide) (by decide) (by decide) (fun _ _ _ hf => False.elim hf) (fun r128 h128 n128 hp128 => ?_)
    obtain ⟨z128, s128, e128, rfl, rfl, rfl⟩ := hp128
    replace hE := fon_ok e128 hE
    obtain ⟨g131, hE⟩ := fgd hE hF
    exact aw_zret dX11_readSigns_131 rfl (narB g131) (Nat.zero_le _) (Nat.zero_le _) (Nat.zero_le _) (Nat.zero_le _) ⟨_, _, hE.symm, rfl, rfl, rfl⟩
  · replace hE := fif hE c12
    refine aw_iload_n dX11_readSigns_15 rfl ?_
    refine aw_if_ne (tgt := 28) dX11_readSigns_16 (by decide) (fun c16 => ?_) (fun c16 => ?_)
    · replace hE := fif hE c16
      refine aw_aload_n dX11_readSigns_28 rfl ?_
      refine aw_callV dX11_readSigns_29 at_mod cvX11_152 rfl (kF_X11_skip mo mw mr ms mt mu dd wi hi gt sp ta li sr co hb _ hms  (fon_ne hE hF)) rfl (Nat.le_of_ble_eq_true rfl) (by decide) (by decide) (by decide) (by decide) (fun _ _ _ hf => False.elim hf) (fun r29 h29 n29 hp29 => ?_)
      obtain ⟨z29, s29, e29, rfl, rfl, rfl⟩ := hp29
      replace hE := fon_ok e29 hE
      exact aw_lv _ (List.forall_mem_cons.mpr ⟨rfl, (List.forall_mem_cons.mpr ⟨rfl, fun _ h => absurd h List.not_mem_nil⟩)⟩) (b_X11_readSigns_32 mo mw ms mt mu dd wi hi sp ta li sr co hb n hms k2 hk2 v1 s29 gt _ hE hF)
    · replace hE := fit hE c16
      refine aw_aload_n dX11_readSigns_19 rfl ?_
      refine aw_callV dX11_readSigns_20 at_mod cvX11_156 rfl (kF_X11_gap mo mw mr ms mt mu dd wi hi gt sp ta li sr co hb _ hms  (fon_ne hE hF)) rfl (Nat.le_of_ble_eq_true rfl) (by decide) (by decide) (by decide) (by decide) (fun _ _ _ hf => False.elim hf) (fun r20 h20 n20 hp20 => ?_)
      obtain ⟨z20, s20, e20, rfl, rfl, rfl⟩ := hp20
      replace hE := fon_ok e20 hE
      refine aw_if_ne (tgt := 32) dX11_readSigns_23 (by decide) (fun c23 => ?_) (fun c23 => ?_)
      · replace hE := fif hE c23
        exact aw_lv _ (List.forall_mem_cons.mpr ⟨rfl, (List.forall_mem_cons.mpr ⟨rfl, fun _ h => absurd h List.not_mem_nil⟩)⟩) (b_X11_readSigns_32 mo mw ms mt mu dd wi hi sp ta li sr co hb n hms k2 hk2 v1 s20 gt _ hE hF)
      · replace hE := fit hE c23
        refine aw_iconst (v := 0) dX11_readSigns_26 (by decide) ?_
        exact aw_zret dX11_readSigns_27 rfl (narB (by decide)) (Nat.zero_le _) (Nat.zero_le _) (Nat.zero_le _) (Nat.zero_le _) ⟨_, _, hE.symm, rfl, rfl, rfl⟩
def F_X11_readSigns (sb : A) (mr : MR) (gt : A) : Out (MR × A) Int32 := lp (fun _ _ _ => fno) (F_X11_readSigns_2 sb) FU (0 : Int32) mr gt
set_option maxHeartbeats 1000000 in
set_option maxRecDepth 100000 in
theorem kF_X11_readSigns (mo : MO) (mw : MW) (mr : MR) (ms : Nat) (mt : A) (mu : A) (dd : A) (wi : A) (hi : A) (gt : A) (sp : A) (ta : A) (li : A) (sr : A) (co : A) (hb : aH) (n : Nat) (hms : isMS ms)  (hF : F_X11_readSigns (srcB ms mt mu) mr gt ≠ fno) : AM mX11_readSigns 4 [.ref 31] (HM mo mw mr ms mt mu dd wi hi gt sp ta li sr co hb) n 0 0 0 0 (P_X11_readSigns mo mw ms mt mu dd wi hi sp ta li sr co hb n (F_X11_readSigns (srcB ms mt mu) mr gt)) (fun _ _ _ => False) := by
  generalize hE : F_X11_readSigns (srcB ms mt mu) mr gt = res at hF ⊢
  refine aw_of (by decide +kernel) rfl (Nat.le_of_ble_eq_true rfl) ?_
  unfold F_X11_readSigns at hE
  refine aw_iconst (v := 0) dX11_readSigns_0 (by decide) ?_
  refine aw_istore_n (lv2 := [(1, _), (0, _)]) dX11_readSigns_1 (by decide) rfl ?_
  exact aw_lv _ (List.forall_mem_cons.mpr ⟨rfl, (List.forall_mem_cons.mpr ⟨rfl, fun _ h => absurd h List.not_mem_nil⟩)⟩) (lp_ind (Q_X11_readSigns_2 mo mw ms mt mu dd wi hi sp ta li sr co hb n) (fun _ _ _ res hq hF => (hF hq.symm).elim) (fun k hk => b_X11_readSigns_2 mo mw ms mt mu dd wi hi sp ta li sr co hb n hms  k hk) FU (0 : Int32) mr gt _ hE hF)
def P_X11_readNumbers (mo : MO) (mw : MW) (ms : Nat) (mt : A) (mu : A) (dd : A) (wi : A) (hi : A) (sp : A) (ta : A) (li : A) (sr : A) (co : A) (hb : aH) (n : Nat) (res : Out (MR × A) Int32) : Option Value → aH → Nat → Prop := fun r1 h2 n2 => ∃ (a : Int32) (s : (MR × A)), res = fok a s ∧ r1 = some (.int a) ∧ h2 = HM mo mw s.1 ms mt mu dd wi hi s.2 sp ta li sr co hb ∧ n = n2
abbrev Q_X11_readNumbers_13 (mo : MO) (mw : MW) (ms : Nat) (mt : A) (mu : A) (dd : A) (wi : A) (hi : A) (sp : A) (ta : A) (li : A) (sr : A) (co : A) (hb : aH) (n : Nat) (k : Int32 → MR → A → Out (MR × A) Int32) : Prop := ∀ (t0 : Int32) (mr : MR) (gt : A) (res : Out (MR × A) Int32), k t0 mr gt = res → res ≠ fno → AW (fun _ _ => True) mX11_readNumbers (rmD 4 0 0) 0 0 (P_X11_readNumbers mo mw ms mt mu dd wi hi sp ta li sr co hb n res) (fun _ _ _ => False) 0 0 13 [(0, .ref 31)] [.int t0] (HM mo mw mr ms mt mu dd wi hi gt sp ta li sr co hb) n
abbrev Q_X11_readNumbers_16 (mo : MO) (mw : MW) (ms : Nat) (mt : A) (mu : A) (dd : A) (wi : A) (hi : A) (sp : A) (ta : A) (li : A) (sr : A) (co : A) (hb : aH) (n : Nat) (k : Int32 → Int32 → MR → A → Out (MR × A) Int32) : Prop := ∀ (v1 : Int32) (v2 : Int32) (mr : MR) (gt : A) (res : Out (MR × A) Int32), k v1 v2 mr gt = res → res ≠ fno → AW (fun _ _ => True) mX11_readNumbers (rmD 4 0 0) 0 0 (P_X11_readNumbers mo mw ms mt mu dd wi hi sp ta li sr co hb n res) (fun _ _ _ => False) 0 0 16 [(0, .ref 31), (1, .int v1), (2, .int v2)] [] (HM mo mw mr ms mt mu dd wi hi gt sp ta li sr co hb) n
abbrev Q_X11_readNumbers_34 (mo : MO) (mw : MW) (ms : Nat) (mt : A) (mu : A) (dd : A) (wi : A) (hi : A) (sp : A) (ta : A) (li : A) (sr : A) (co : A) (hb : aH) (n : Nat) (k : Int32 → Int32 → Int32 → Int32 → MR → A → Out (MR × A) Int32) : Prop := ∀ (v1 : Int32) (v2 : Int32) (v3 : Int32) (v4 : Int32) (mr : MR) (gt : A) (res : Out (MR × A) Int32), k v1 v2 v3 v4 mr gt = res → res ≠ fno → AW (fun _ _ => True) mX11_readNumbers (rmD 4 0 0) 0 0 (P_X11_readNumbers mo mw ms mt mu dd wi hi sp ta li sr co hb n res) (fun _ _ _ => False) 0 0 34 [(0, .ref 31), (1, .int v1), (2, .int v2), (3, .int v3), (4, .int v4)] [] (HM mo mw mr ms mt mu dd wi hi gt sp ta li sr co hb) n
abbrev Q_X11_readNumbers_132 (mo : MO) (mw : MW) (ms : Nat) (mt : A) (mu : A) (dd : A) (wi : A) (hi : A) (sp : A) (ta : A) (li : A) (sr : A) (co : A) (hb : aH) (n : Nat) (k : Int32 → Int32 → Int32 → Int32 → MR → A → Out (MR × A) Int32) : Prop := ∀ (v1 : Int32) (v2 : Int32) (t0 : Int32) (t1 : Int32) (mr : MR) (gt : A) (res : Out (MR × A) Int32), k v1 v2 t0 t1 mr gt = res → res ≠ fno → AW (fun _ _ => True) mX11_readNumbers (rmD 4 0 0) 0 0 (P_X11_readNumbers mo mw ms mt mu dd wi hi sp ta li sr co hb n res) (fun _ _ _ => False) 0 0 132 [(0, .ref 31), (1, .int v1), (2, .int v2)] [.int t0, .int t1, .ref 37] (HM mo mw mr ms mt mu dd wi hi gt sp ta li sr co hb) n
def F_X11_readNumbers_132 (sb : A) (k16 : Int32 → Int32 → MR → A → Out (MR × A) Int32) (v1 : Int32) (v2 : Int32) (t0 : Int32) (t1 : Int32) (mr : MR) (gt : A) : Out (MR × A) Int32 := if inb t1 4096 then (k16 v1 (v2 + 1) mr (upd gt (Int32.toNatClampNeg t1) t0)) else fno
set_option maxHeartbeats 1000000 in
set_option maxRecDepth 100000 in
theorem b_X11_readNumbers_132 (mo : MO) (mw : MW) (ms : Nat) (mt : A) (mu : A) (dd : A) (wi : A) (hi : A) (sp : A) (ta : A) (li : A) (sr : A) (co : A) (hb : aH) (n : Nat) (hms : isMS ms) (k16 : Int32 → Int32 → MR → A → Out (MR × A) Int32) (hk16 : Q_X11_readNumbers_16 mo mw ms mt mu dd wi hi sp ta li sr co hb n k16) : Q_X11_readNumbers_132 mo mw ms mt mu dd wi hi sp ta li sr co hb n (F_X11_readNumbers_132 (srcB ms mt mu) k16) := by
  intro v1 v2 t0 t1 mr gt res hE hF
  unfold F_X11_readNumbers_132 at hE
  obtain ⟨g132, hE⟩ := fgd hE hF
  refine aw_iast (f := gt) dX11_readNumbers_132 at_mgot (vp_in_iff.mpr g132) ?_
  refine aw_eqh (h2 := HM mo mw mr ms mt mu dd wi hi (upd gt (Int32.toNatClampNeg t1) t0) sp ta li sr co hb) up_mgot ?_
  refine aw_iinc (v := (v2 + 1)) (lv2 := [(2, _), (0, _), (1, _)]) dX11_readNumbers_133 rfl (incE (by decide)) (by decide) rfl ?_
  refine aw_goto (tgt := 16) dX11_readNumbers_136 (by decide) ?_
  exact aw_lv _ (List.forall_mem_cons.mpr ⟨rfl, (List.forall_mem_cons.mpr ⟨rfl, (List.forall_mem_cons.mpr ⟨rfl, fun _ h => absurd h List.not_mem_nil⟩)⟩)⟩) (hk16 v1 (v2 + 1) mr (upd gt (Int32.toNatClampNeg t1) t0) _ hE hF)
def F_X11_readNumbers_34 (sb : A) (k16 : Int32 → Int32 → MR → A → Out (MR × A) Int32) (k34 : Int32 → Int32 → Int32 → Int32 → MR → A → Out (MR × A) Int32) (v1 : Int32) (v2 : Int32) (v3 : Int32) (v4 : Int32) (mr : MR) (gt : A) : Out (MR × A) Int32 := if v1 ≤ v4 then (if v1 = 1 then (F_X11_readNumbers_132 sb k16 v1 v2 (F_X11_gray v3) v2 mr gt) else (F_X11_readNumbers_132 sb k16 v1 v2 ((v3 <<< ((8 : Int32) &&& 31)) ||| 255) v2 mr gt)) else (fon (F_X11_gap sb mr) (fun z41 s41 => if z41 = 0 then (fok (0 : Int32) (s41, gt)) else (fon (F_X11_number sb s41) (fun z56 s56 => if 0 ≤ z56 then (if z56 ≤ (mr_two s56) then (fon (F_X11_scaled z56 (mr_two s56)) (fun z96 s96 => k34 v1 v2 ((v3 <<< ((8 : Int32) &&& 31)) ||| z96) (v4 + 1) s56 gt) (fun _ _ => fno)) else (fon (F_X11_wrong 6 (mr_pos s41) s56) (fun z82 s82 => if isB z82 then (fok (z82 : Int32) (s82, gt)) else fno) (fun _ _ => fno))) else (fok (0 : Int32) (s56, gt))) (fun _ _ => fno))) (fun _ _ => fno))
set_option maxHeartbeats 1000000 in
set_option maxRecDepth 100000 in
theorem b_X11_readNumbers_34 (mo : MO) (mw : MW) (ms : Nat) (mt : A) (mu : A) (dd : A) (wi : A) (hi : A) (sp : A) (ta : A) (li : A) (sr : A) (co : A) (hb : aH) (n : Nat) (hms : isMS ms) (k16 : Int32 → Int32 → MR → A → Out (MR × A) Int32) (hk16 : Q_X11_readNumbers_16 mo mw ms mt mu dd wi hi sp ta li sr co hb n k16) (k34 : Int32 → Int32 → Int32 → Int32 → MR → A → Out (MR × A) Int32) (hk34 : Q_X11_readNumbers_34 mo mw ms mt mu dd wi hi sp ta li sr co hb n k34) : Q_X11_readNumbers_34 mo mw ms mt mu dd wi hi sp ta li sr co hb n (F_X11_readNumbers_34 (srcB ms mt mu) k16 k34) := by
  intro v1 v2 v3 v4 mr gt res hE hF
  unfold F_X11_readNumbers_34 at hE
  refine aw_iload dX11_readNumbers_34 rfl ?_
  refine aw_iload_n dX11_readNumbers_36 rfl ?_
  refine aw_icmp_ge (tgt := 107) dX11_readNumbers_37 (by decide) (fun c37 => ?_) (fun c37 => ?_)
  · replace hE := fit hE c37
    refine aw_aload_n dX11_readNumbers_107 rfl ?_
    refine aw_getf (v := .ref 37) dX11_readNumbers_108 flX11_27_10 at_mod rfl ?_
    refine aw_iload_n dX11_readNumbers_111 rfl ?_
    refine aw_iload_n dX11_readNumbers_112 rfl ?_
    refine aw_iconst (v := 1) dX11_readNumbers_113 (by decide) ?_
    refine aw_icmp_ne (tgt := 124) dX11_readNumbers_114 (by decide) (fun c114 => ?_) (fun c114 => ?_)
    · replace hE := fif hE c114
      refine aw_iload_n dX11_readNumbers_124 rfl ?_
      refine aw_bipush (v := 8) dX11_readNumbers_125 (by decide) ?_
      refine aw_ishl dX11_readNumbers_127 ?_
      refine aw_sipush (v := 255) dX11_readNumbers_128 (by decide) ?_
      refine aw_ior dX11_readNumbers_131 ?_
      exact aw_lv _ (List.forall_mem_cons.mpr ⟨rfl, (List.forall_mem_cons.mpr ⟨rfl, (List.forall_mem_cons.mpr ⟨rfl, fun _ h => absurd h List.not_mem_nil⟩)⟩)⟩) (b_X11_readNumbers_132 mo mw ms mt mu dd wi hi sp ta li sr co hb n hms k16 hk16 v1 v2 ((v3 <<< ((8 : Int32) &&& 31)) ||| 255) v2 mr gt _ hE hF)
    · replace hE := fit hE c114
      refine aw_iload_n dX11_readNumbers_117 rfl ?_
      refine aw_callS dX11_readNumbers_118  csX11_176 rfl (kF_X11_gray _ _ v3) rfl (Nat.le_of_ble_eq_true rfl) (by decide) (by decide) (by decide) (by decide) (fun _ _ _ hf => False.elim hf) (fun r118 h118 n118 hp118 => ?_)
      obtain ⟨rfl, rfl, rfl⟩ := hp118
      refine aw_goto (tgt := 132) dX11_readNumbers_121 (by decide) ?_
      exact aw_lv _ (List.forall_mem_cons.mpr ⟨rfl, (List.forall_mem_cons.mpr ⟨rfl, (List.forall_mem_cons.mpr ⟨rfl, fun _ h => absurd h List.not_mem_nil⟩)⟩)⟩) (b_X11_readNumbers_132 mo mw ms mt mu dd wi hi sp ta li sr co hb n hms k16 hk16 v1 v2 (F_X11_gray v3) v2 mr gt _ hE hF)
  · replace hE := fif hE c37
    refine aw_aload_n dX11_readNumbers_40 rfl ?_
    refine aw_callV dX11_readNumbers_41 at_mod cvX11_156 rfl (kF_X11_gap mo mw mr ms mt mu dd wi hi gt sp ta li sr co hb _ hms  (fon_ne hE hF)) rfl (Nat.le_of_ble_eq_true rfl) (by decide) (by decide) (by decide) (by decide) (fun _ _ _ hf => False.elim hf) (fun r41 h41 n41 hp41 => ?_)
    obtain ⟨z41, s41, e41, rfl, rfl, rfl⟩ := hp41
    replace hE := fon_ok e41 hE
    refine aw_if_ne (tgt := 49) dX11_readNumbers_44 (by decide) (fun c44 => ?_) (fun c44 => ?_)
    · replace hE := fif hE c44
      refine aw_aload_n dX11_readNumbers_49 rfl ?_
      refine aw_getf (v := .int (mr_pos s41)) dX11_readNumbers_50 flX11_84_10 at_mod rfl ?_
      refine aw_istore (lv2 := [(5, _), (0, _), (1, _), (2, _), (3, _), (4, _)]) dX11_readNumbers_53 (by decide) rfl ?_
      refine aw_aload_n dX11_readNumbers_55 rfl ?_
      refine aw_callV dX11_readNumbers_56 at_mod cvX11_159 rfl (kF_X11_number mo mw s41 ms mt mu dd wi hi gt sp ta li sr co hb _ hms  (fon_ne hE hF)) rfl (Nat.le_of_ble_eq_true rfl) (by decide) (by decide) (by decide) (by decide) (fun _ _ _ hf => False.elim hf) (fun r56 h56 n56 hp56 => ?_)
      obtain ⟨z56, s56, e56, rfl, rfl, rfl⟩ := hp56
      replace hE := fon_ok e56 hE
      refine aw_istore (lv2 := [(6, _), (5, _), (0, _), (1, _), (2, _), (3, _), (4, _)]) dX11_readNumbers_59 (by decide) rfl ?_
      refine aw_iload dX11_readNumbers_61 rfl ?_
      refine aw_if_ge (tgt := 68) dX11_readNumbers_63 (by decide) (fun c63 => ?_) (fun c63 => ?_)
      · replace hE := fit hE c63
        refine aw_iload dX11_readNumbers_68 rfl ?_
        refine aw_aload_n dX11_readNumbers_70 rfl ?_
        refine aw_getf (v := .int (mr_two s56)) dX11_readNumbers_71 flX11_133_10 at_mod rfl ?_
        refine aw_icmp_le (tgt := 86) dX11_readNumbers_74 (by decide) (fun c74 => ?_) (fun c74 => ?_)
        · replace hE := fit hE c74
          refine aw_iload_n dX11_readNumbers_86 rfl ?_
          refine aw_bipush (v := 8) dX11_readNumbers_87 (by decide) ?_
          refine aw_ishl dX11_readNumbers_89 ?_
          refine aw_iload dX11_readNumbers_90 rfl ?_
          refine aw_aload_n dX11_readNumbers_92 rfl ?_
          refine aw_getf (v := .int (mr_two s56)) dX11_readNumbers_93 flX11_133_10 at_mod rfl ?_
          refine aw_callS dX11_readNumbers_96  csX11_179 rfl (kF_X11_scaled mo mw s56 ms mt mu dd wi hi gt sp ta li sr co hb _  z56 (mr_two s56) (fon_ne hE hF)) rfl (Nat.le_of_ble_eq_true rfl) (by decide) (by decide) (by decide) (by decide) (fun _ _ _ hf => False.elim hf) (fun r96 h96 n96 hp96 => ?_)
          obtain ⟨z96, s96, e96, rfl, rfl, rfl⟩ := hp96
          replace hE := fon_ok e96 hE
          refine aw_ior dX11_readNumbers_99 ?_
          refine aw_istore_n (lv2 := [(3, _), (6, _), (5, _), (0, _), (1, _), (2, _), (4, _)]) dX11_readNumbers_100 (by decide) rfl ?_
          refine aw_iinc (v := (v4 + 1)) (lv2 := [(4, _), (3, _), (6, _), (5, _), (0, _), (1, _), (2, _)]) dX11_readNumbers_101 rfl (incE (by decide)) (by decide) rfl ?_
          refine aw_goto (tgt := 34) dX11_readNumbers_104 (by decide) ?_
          exact aw_lv _ (List.forall_mem_cons.mpr ⟨rfl, (List.forall_mem_cons.mpr ⟨rfl, (List.forall_mem_cons.mpr ⟨rfl, (List.forall_mem_cons.mpr ⟨rfl, (List.forall_mem_cons.mpr ⟨rfl, fun _ h => absurd h List.not_mem_nil⟩)⟩)⟩)⟩)⟩) (hk34 v1 v2 ((v3 <<< ((8 : Int32) &&& 31)) ||| z96) (v4 + 1) s56 gt _ hE hF)
        · replace hE := fif hE c74
          refine aw_aload_n dX11_readNumbers_77 rfl ?_
          refine aw_bipush (v := 6) dX11_readNumbers_78 (by decide) ?_
          refine aw_iload dX11_readNumbers_80 rfl ?_
          refine aw_callV dX11_readNumbers_82 at_mod cvX11_90 rfl (kF_X11_wrong mo mw s56 ms mt mu dd wi hi gt sp ta li sr co hb _  6 (mr_pos s41) (fon_ne hE hF)) rfl (Nat.le_of_ble_eq_true rfl) (by decide) (by decide) (by decide) (by decide) (fun _ _ _ hf => False.elim hf) (fun r82 h82 n82 hp82 => ?_)
          obtain ⟨z82, s82, e82, rfl, rfl, rfl⟩ := hp82
          replace hE := fon_ok e82 hE
          obtain ⟨g85, hE⟩ := fgd hE hF
          exact aw_zret dX11_readNumbers_85 rfl (narB g85) (Nat.zero_le _) (Nat.zero_le _) (Nat.zero_le _) (Nat.zero_le _) ⟨_, _, hE.symm, rfl, rfl, rfl⟩
      · replace hE := fif hE c63
        refine aw_iconst (v := 0) dX11_readNumbers_66 (by decide) ?_
        exact aw_zret dX11_readNumbers_67 rfl (narB (by decide)) (Nat.zero_le _) (Nat.zero_le _) (Nat.zero_le _) (Nat.zero_le _) ⟨_, _, hE.symm, rfl, rfl, rfl⟩
    · replace hE := fit hE c44
      refine aw_iconst (v := 0) dX11_readNumbers_47 (by decide) ?_
      exact aw_zret dX11_readNumbers_48 rfl (narB (by decide)) (Nat.zero_le _) (Nat.zero_le _) (Nat.zero_le _) (Nat.zero_le _) ⟨_, _, hE.symm, rfl, rfl, rfl⟩
def F_X11_readNumbers_16 (sb : A) (k16 : Int32 → Int32 → MR → A → Out (MR × A) Int32) (v1 : Int32) (v2 : Int32) (mr : MR) (gt : A) : Out (MR × A) Int32 := if ((mr_gw mr) * (mr_gh mr)) ≤ v2 then (fon (F_X11_skip sb mr) (fun z140 s140 => fon (F_X11_closes s140) (fun z144 s144 => if isB z144 then (fok (z144 : Int32) (s144, gt)) else fno) (fun _ _ => fno)) (fun _ _ => fno)) else (lp (fun _ _ _ _ _ _ => fno) (F_X11_readNumbers_34 sb k16) FU v1 v2 (0 : Int32) (0 : Int32) mr gt)
set_option maxHeartbeats 1000000 in
set_option maxRecDepth 100000 in
theorem b_X11_readNumbers_16 (mo : MO) (mw : MW) (ms : Nat) (mt : A) (mu : A) (dd : A) (wi : A) (hi : A) (sp : A) (ta : A) (li : A) (sr : A) (co : A) (hb : aH) (n : Nat) (hms : isMS ms) (k16 : Int32 → Int32 → MR → A → Out (MR × A) Int32) (hk16 : Q_X11_readNumbers_16 mo mw ms mt mu dd wi hi sp ta li sr co hb n k16) : Q_X11_readNumbers_16 mo mw ms mt mu dd wi hi sp ta li sr co hb n (F_X11_readNumbers_16 (srcB ms mt mu) k16) := by
  intro v1 v2 mr gt res hE hF
  unfold F_X11_readNumbers_16 at hE
  refine aw_iload_n dX11_readNumbers_16 rfl ?_
  refine aw_aload_n dX11_readNumbers_17 rfl ?_
  refine aw_getf (v := .int (mr_gw mr)) dX11_readNumbers_18 flX11_109_10 at_mod rfl ?_
  refine aw_aload_n dX11_readNumbers_21 rfl ?_
  refine aw_getf (v := .int (mr_gh mr)) dX11_readNumbers_22 flX11_112_10 at_mod rfl ?_
  refine aw_imul dX11_readNumbers_25 ?_
  refine aw_icmp_ge (tgt := 139) dX11_readNumbers_26 (by decide) (fun c26 => ?_) (fun c26 => ?_)
  · replace hE := fit hE c26
    refine aw_aload_n dX11_readNumbers_139 rfl ?_
    refine aw_callV dX11_readNumbers_140 at_mod cvX11_152 rfl (kF_X11_skip mo mw mr ms mt mu dd wi hi gt sp ta li sr co hb _ hms  (fon_ne hE hF)) rfl (Nat.le_of_ble_eq_true rfl) (by decide) (by decide) (by decide) (by decide) (fun _ _ _ hf => False.elim hf) (fun r140 h140 n140 hp140 => ?_)
    obtain ⟨z140, s140, e140, rfl, rfl, rfl⟩ := hp140
    replace hE := fon_ok e140 hE
    refine aw_aload_n dX11_readNumbers_143 rfl ?_
    refine aw_callV dX11_readNumbers_144 at_mod cvX11_145 rfl (kF_X11_closes mo mw s140 ms mt mu dd wi hi gt sp ta li sr co hb _   (fon_ne hE hF)) rfl (Nat.le_of_ble_eq_true rfl) (by decide) (by decide) (by decide) (by decide) (fun _ _ _ hf => False.elim hf) (fun r144 h144 n144 hp144 => ?_)
    obtain ⟨z144, s144, e144, rfl, rfl, rfl⟩ := hp144
    replace hE := fon_ok e144 hE
    obtain ⟨g147, hE⟩ := fgd hE hF
    exact aw_zret dX11_readNumbers_147 rfl (narB g147) (Nat.zero_le _) (Nat.zero_le _) (Nat.zero_le _) (Nat.zero_le _) ⟨_, _, hE.symm, rfl, rfl, rfl⟩
  · replace hE := fif hE c26
    refine aw_iconst (v := 0) dX11_readNumbers_29 (by decide) ?_
    refine aw_istore_n (lv2 := [(3, _), (0, _), (1, _), (2, _)]) dX11_readNumbers_30 (by decide) rfl ?_
    refine aw_iconst (v := 0) dX11_readNumbers_31 (by decide) ?_
    refine aw_istore (lv2 := [(4, _), (3, _), (0, _), (1, _), (2, _)]) dX11_readNumbers_32 (by decide) rfl ?_
    exact aw_lv _ (List.forall_mem_cons.mpr ⟨rfl, (List.forall_mem_cons.mpr ⟨rfl, (List.forall_mem_cons.mpr ⟨rfl, (List.forall_mem_cons.mpr ⟨rfl, (List.forall_mem_cons.mpr ⟨rfl, fun _ h => absurd h List.not_mem_nil⟩)⟩)⟩)⟩)⟩) (lp_ind (Q_X11_readNumbers_34 mo mw ms mt mu dd wi hi sp ta li sr co hb n) (fun _ _ _ _ _ _ res hq hF => (hF hq.symm).elim) (fun k hk => b_X11_readNumbers_34 mo mw ms mt mu dd wi hi sp ta li sr co hb n hms k16 hk16 k hk) FU v1 v2 (0 : Int32) (0 : Int32) mr gt _ hE hF)
def F_X11_readNumbers_13 (sb : A)  (t0 : Int32) (mr : MR) (gt : A) : Out (MR × A) Int32 := lp (fun _ _ _ _ => fno) (F_X11_readNumbers_16 sb) FU t0 (0 : Int32) mr gt
set_option maxHeartbeats 1000000 in
set_option maxRecDepth 100000 in
theorem b_X11_readNumbers_13 (mo : MO) (mw : MW) (ms : Nat) (mt : A) (mu : A) (dd : A) (wi : A) (hi : A) (sp : A) (ta : A) (li : A) (sr : A) (co : A) (hb : aH) (n : Nat) (hms : isMS ms)  : Q_X11_readNumbers_13 mo mw ms mt mu dd wi hi sp ta li sr co hb n (F_X11_readNumbers_13 (srcB ms mt mu)) := by
  intro t0 mr gt res hE hF
  unfold F_X11_readNumbers_13 at hE
  refine aw_istore_n (lv2 := [(1, _), (0, _)]) dX11_readNumbers_13 (by decide) rfl ?_
  refine aw_iconst (v := 0) dX11_readNumbers_14 (by decide) ?_
  refine aw_istore_n (lv2 := [(2, _), (1, _), (0, _)]) dX11_readNumbers_15 (by decide) rfl ?_
  exact aw_lv _ (List.forall_mem_cons.mpr ⟨rfl, (List.forall_mem_cons.mpr ⟨rfl, (List.forall_mem_cons.mpr ⟨rfl, fun _ h => absurd h List.not_mem_nil⟩)⟩)⟩) (lp_ind (Q_X11_readNumbers_16 mo mw ms mt mu dd wi hi sp ta li sr co hb n) (fun _ _ _ _ res hq hF => (hF hq.symm).elim) (fun k hk => b_X11_readNumbers_16 mo mw ms mt mu dd wi hi sp ta li sr co hb n hms  k hk) FU t0 (0 : Int32) mr gt _ hE hF)
def F_X11_readNumbers (sb : A) (mr : MR) (gt : A) : Out (MR × A) Int32 := if (mr_one mr) = 2 then (F_X11_readNumbers_13 sb (1 : Int32) mr gt) else (F_X11_readNumbers_13 sb (3 : Int32) mr gt)
set_option maxHeartbeats 1000000 in
set_option maxRecDepth 100000 in
theorem kF_X11_readNumbers (mo : MO) (mw : MW) (mr : MR) (ms : Nat) (mt : A) (mu : A) (dd : A) (wi : A) (hi : A) (gt : A) (sp : A) (ta : A) (li : A) (sr : A) (co : A) (hb : aH) (n : Nat) (hms : isMS ms)  (hF : F_X11_readNumbers (srcB ms mt mu) mr gt ≠ fno) : AM mX11_readNumbers 4 [.ref 31] (HM mo mw mr ms mt mu dd wi hi gt sp ta li sr co hb) n 0 0 0 0 (P_X11_readNumbers mo mw ms mt mu dd wi hi sp ta li sr co hb n (F_X11_readNumbers (srcB ms mt mu) mr gt)) (fun _ _ _ => False) := by
  generalize hE : F_X11_readNumbers (srcB ms mt mu) mr gt = res at hF ⊢
  refine aw_of (by decide +kernel) rfl (Nat.le_of_ble_eq_true rfl) ?_
  unfold F_X11_readNumbers at hE
  refine aw_aload_n dX11_readNumbers_0 rfl ?_
  refine aw_getf (v := .int (mr_one mr)) dX11_readNumbers_1 flX11_130_10 at_mod rfl ?_
  refine aw_iconst (v := 2) dX11_readNumbers_4 (by decide) ?_
  refine aw_icmp_ne (tgt := 12) dX11_readNumbers_5 (by decide) (fun c5 => ?_) (fun c5 => ?_)
  · replace hE := fif hE c5
    refine aw_iconst (v := 3) dX11_readNumbers_12 (by decide) ?_
    exact aw_lv _ (List.forall_mem_cons.mpr ⟨rfl, fun _ h => absurd h List.not_mem_nil⟩) (b_X11_readNumbers_13 mo mw ms mt mu dd wi hi sp ta li sr co hb n hms  (3 : Int32) mr gt _ hE hF)
  · replace hE := fit hE c5
    refine aw_iconst (v := 1) dX11_readNumbers_8 (by decide) ?_
    refine aw_goto (tgt := 13) dX11_readNumbers_9 (by decide) ?_
    exact aw_lv _ (List.forall_mem_cons.mpr ⟨rfl, fun _ h => absurd h List.not_mem_nil⟩) (b_X11_readNumbers_13 mo mw ms mt mu dd wi hi sp ta li sr co hb n hms  (1 : Int32) mr gt _ hE hF)
