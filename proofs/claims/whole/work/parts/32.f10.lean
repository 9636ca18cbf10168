def P_X11_number (mo : MO) (mw : MW) (ms : Nat) (mt : A) (mu : A) (dd : A) (wi : A) (hi : A) (gt : A) (sp : A) (ta : A) (li : A) (sr : A) (co : A) (hb : aH) (n : Nat) (res : Out MR Int32) : Option Value → aH → Nat → Prop := fun r1 h2 n2 => ∃ (a : Int32) (s : MR), res = fok a s ∧ r1 = some (.int a) ∧ h2 = HM mo mw s ms mt mu dd wi hi gt sp ta li sr co hb ∧ n = n2
abbrev Q_X11_number_49 (mo : MO) (mw : MW) (ms : Nat) (mt : A) (mu : A) (dd : A) (wi : A) (hi : A) (gt : A) (sp : A) (ta : A) (li : A) (sr : A) (co : A) (hb : aH) (n : Nat) (k : MR → Out MR Int32) : Prop := ∀ (mr : MR) (res : Out MR Int32), k mr = res → res ≠ fno → AW (fun _ _ => True) mX11_number (rmD 2 0 0) 0 0 (P_X11_number mo mw ms mt mu dd wi hi gt sp ta li sr co hb n res) (fun _ _ _ => False) 0 0 49 [(0, .ref 31)] [] (HM mo mw mr ms mt mu dd wi hi gt sp ta li sr co hb) n
abbrev Q_X11_number_63 (mo : MO) (mw : MW) (ms : Nat) (mt : A) (mu : A) (dd : A) (wi : A) (hi : A) (gt : A) (sp : A) (ta : A) (li : A) (sr : A) (co : A) (hb : aH) (n : Nat) (k : Int32 → MR → Out MR Int32) : Prop := ∀ (v1 : Int32) (mr : MR) (res : Out MR Int32), k v1 mr = res → res ≠ fno → AW (fun _ _ => True) mX11_number (rmD 2 0 0) 0 0 (P_X11_number mo mw ms mt mu dd wi hi gt sp ta li sr co hb n res) (fun _ _ _ => False) 0 0 63 [(0, .ref 31), (1, .int v1)] [] (HM mo mw mr ms mt mu dd wi hi gt sp ta li sr co hb) n
abbrev Q_X11_number_126 (mo : MO) (mw : MW) (ms : Nat) (mt : A) (mu : A) (dd : A) (wi : A) (hi : A) (gt : A) (sp : A) (ta : A) (li : A) (sr : A) (co : A) (hb : aH) (n : Nat) (k : Int32 → MR → Out MR Int32) : Prop := ∀ (v1 : Int32) (mr : MR) (res : Out MR Int32), k v1 mr = res → res ≠ fno → AW (fun _ _ => True) mX11_number (rmD 2 0 0) 0 0 (P_X11_number mo mw ms mt mu dd wi hi gt sp ta li sr co hb n res) (fun _ _ _ => False) 0 0 126 [(0, .ref 31), (1, .int v1)] [] (HM mo mw mr ms mt mu dd wi hi gt sp ta li sr co hb) n
abbrev Q_X11_number_139 (mo : MO) (mw : MW) (ms : Nat) (mt : A) (mu : A) (dd : A) (wi : A) (hi : A) (gt : A) (sp : A) (ta : A) (li : A) (sr : A) (co : A) (hb : aH) (n : Nat) (k : Int32 → MR → Out MR Int32) : Prop := ∀ (v1 : Int32) (mr : MR) (res : Out MR Int32), k v1 mr = res → res ≠ fno → AW (fun _ _ => True) mX11_number (rmD 2 0 0) 0 0 (P_X11_number mo mw ms mt mu dd wi hi gt sp ta li sr co hb n res) (fun _ _ _ => False) 0 0 139 [(1, .int v1)] [] (HM mo mw mr ms mt mu dd wi hi gt sp ta li sr co hb) n
def F_X11_number_139 (sb : A)  (v1 : Int32) (mr : MR) : Out MR Int32 := fok (v1 : Int32) mr
set_option maxHeartbeats 1000000 in
set_option maxRecDepth 100000 in
theorem b_X11_number_139 (mo : MO) (mw : MW) (ms : Nat) (mt : A) (mu : A) (dd : A) (wi : A) (hi : A) (gt : A) (sp : A) (ta : A) (li : A) (sr : A) (co : A) (hb : aH) (n : Nat) (hms : isMS ms)  : Q_X11_number_139 mo mw ms mt mu dd wi hi gt sp ta li sr co hb n (F_X11_number_139 (srcB ms mt mu)) := by
  intro v1 mr res hE hF
  unfold F_X11_number_139 at hE
  refine aw_iload_n dX11_number_139 rfl ?_
  exact aw_iret dX11_number_140 rfl (Nat.zero_le _) (Nat.zero_le _) (Nat.zero_le _) (Nat.zero_le _) ⟨_, _, hE.symm, rfl, rfl, rfl⟩
def F_X11_number_126 (sb : A) (k63 : Int32 → MR → Out MR Int32) (v1 : Int32) (mr : MR) : Out MR Int32 := k63 v1 ((mr_size mr), ((mr_pos mr) + 1), (mr_kind mr), (mr_whr mr), (mr_gw mr), (mr_gh mr), (mr_one mr), (mr_two mr), (mr_three mr))
set_option maxHeartbeats 1000000 in
set_option maxRecDepth 100000 in
theorem b_X11_number_126 (mo : MO) (mw : MW) (ms : Nat) (mt : A) (mu : A) (dd : A) (wi : A) (hi : A) (gt : A) (sp : A) (ta : A) (li : A) (sr : A) (co : A) (hb : aH) (n : Nat) (hms : isMS ms) (k63 : Int32 → MR → Out MR Int32) (hk63 : Q_X11_number_63 mo mw ms mt mu dd wi hi gt sp ta li sr co hb n k63) : Q_X11_number_126 mo mw ms mt mu dd wi hi gt sp ta li sr co hb n (F_X11_number_126 (srcB ms mt mu) k63) := by
  intro v1 mr res hE hF
  unfold F_X11_number_126 at hE
  refine aw_aload_n dX11_number_126 rfl ?_
  refine aw_dup dX11_number_127 rfl ?_
  refine aw_getf (v := .int (mr_pos mr)) dX11_number_128 flX11_84_10 at_mod rfl ?_
  refine aw_iconst (v := 1) dX11_number_131 (by decide) ?_
  refine aw_iadd dX11_number_132 ?_
  refine aw_putf dX11_number_133 ptX11_84_10 at_mod (Nat.le_of_ble_eq_true rfl) ⟨rfl, rfl⟩ ?_
  refine aw_eqh (h2 := HM mo mw ((mr_size mr), ((mr_pos mr) + 1), (mr_kind mr), (mr_whr mr), (mr_gw mr), (mr_gh mr), (mr_one mr), (mr_two mr), (mr_three mr)) ms mt mu dd wi hi gt sp ta li sr co hb) up_mod ?_
  refine aw_goto (tgt := 63) dX11_number_136 (by decide) ?_
  exact aw_lv _ (List.forall_mem_cons.mpr ⟨rfl, (List.forall_mem_cons.mpr ⟨rfl, fun _ h => absurd h List.not_mem_nil⟩)⟩) (hk63 v1 ((mr_size mr), ((mr_pos mr) + 1), (mr_kind mr), (mr_whr mr), (mr_gw mr), (mr_gh mr), (mr_one mr), (mr_two mr), (mr_three mr)) _ hE hF)
def F_X11_number_63 (sb : A) (k63 : Int32 → MR → Out MR Int32) (v1 : Int32) (mr : MR) : Out MR Int32 := if (mr_size mr) ≤ (mr_pos mr) then (F_X11_number_139 sb v1 mr) else (fon (F_X11_b (mr_pos mr) sb) (fun z79 s79 => if z79 < 48 then (F_X11_number_139 sb v1 mr) else (fon (F_X11_b (mr_pos mr) sb) (fun z92 s92 => if 57 < z92 then (F_X11_number_139 sb v1 mr) else (fon (F_X11_b (mr_pos mr) sb) (fun z109 s109 => if (((10 * v1) + z109) - 48) ≤ 1000000 then (F_X11_number_126 sb k63 (((10 * v1) + z109) - 48) mr) else (F_X11_number_126 sb k63 (1000000 : Int32) mr)) (fun _ _ => fno))) (fun _ _ => fno))) (fun _ _ => fno))
set_option maxHeartbeats 1000000 in
set_option maxRecDepth 100000 in
theorem b_X11_number_63 (mo : MO) (mw : MW) (ms : Nat) (mt : A) (mu : A) (dd : A) (wi : A) (hi : A) (gt : A) (sp : A) (ta : A) (li : A) (sr : A) (co : A) (hb : aH) (n : Nat) (hms : isMS ms) (k63 : Int32 → MR → Out MR Int32) (hk63 : Q_X11_number_63 mo mw ms mt mu dd wi hi gt sp ta li sr co hb n k63) : Q_X11_number_63 mo mw ms mt mu dd wi hi gt sp ta li sr co hb n (F_X11_number_63 (srcB ms mt mu) k63) := by
  intro v1 mr res hE hF
  unfold F_X11_number_63 at hE
  refine aw_aload_n dX11_number_63 rfl ?_
  refine aw_getf (v := .int (mr_pos mr)) dX11_number_64 flX11_84_10 at_mod rfl ?_
  refine aw_aload_n dX11_number_67 rfl ?_
  refine aw_getf (v := .int (mr_size mr)) dX11_number_68 flX11_87_10 at_mod rfl ?_
  refine aw_icmp_ge (tgt := 139) dX11_number_71 (by decide) (fun c71 => ?_) (fun c71 => ?_)
  · replace hE := fit hE c71
    exact aw_lv _ (List.forall_mem_cons.mpr ⟨rfl, fun _ h => absurd h List.not_mem_nil⟩) (b_X11_number_139 mo mw ms mt mu dd wi hi gt sp ta li sr co hb n hms  v1 mr _ hE hF)
  · replace hE := fif hE c71
    refine aw_aload_n dX11_number_74 rfl ?_
    refine aw_aload_n dX11_number_75 rfl ?_
    refine aw_getf (v := .int (mr_pos mr)) dX11_number_76 flX11_84_10 at_mod rfl ?_
    refine aw_callV dX11_number_79 at_mod cvX11_99 rfl (kF_X11_b mo mw mr ms mt mu dd wi hi gt sp ta li sr co hb _ hms (mr_pos mr) (fon_ne hE hF)) rfl (Nat.le_of_ble_eq_true rfl) (by decide) (by decide) (by decide) (by decide) (fun _ _ _ hf => False.elim hf) (fun r79 h79 n79 hp79 => ?_)
    obtain ⟨z79, s79, e79, rfl, rfl, rfl⟩ := hp79
    replace hE := fon_ok e79 hE
    refine aw_bipush (v := 48) dX11_number_82 (by decide) ?_
    refine aw_icmp_lt (tgt := 139) dX11_number_84 (by decide) (fun c84 => ?_) (fun c84 => ?_)
    · replace hE := fit hE c84
      exact aw_lv _ (List.forall_mem_cons.mpr ⟨rfl, fun _ h => absurd h List.not_mem_nil⟩) (b_X11_number_139 mo mw ms mt mu dd wi hi gt sp ta li sr co hb n hms  v1 mr _ hE hF)
    · replace hE := fif hE c84
      refine aw_aload_n dX11_number_87 rfl ?_
      refine aw_aload_n dX11_number_88 rfl ?_
      refine aw_getf (v := .int (mr_pos mr)) dX11_number_89 flX11_84_10 at_mod rfl ?_
      refine aw_callV dX11_number_92 at_mod cvX11_99 rfl (kF_X11_b mo mw mr ms mt mu dd wi hi gt sp ta li sr co hb _ hms (mr_pos mr) (fon_ne hE hF)) rfl (Nat.le_of_ble_eq_true rfl) (by decide) (by decide) (by decide) (by decide) (fun _ _ _ hf => False.elim hf) (fun r92 h92 n92 hp92 => ?_)
      obtain ⟨z92, s92, e92, rfl, rfl, rfl⟩ := hp92
      replace hE := fon_ok e92 hE
      refine aw_bipush (v := 57) dX11_number_95 (by decide) ?_
      refine aw_icmp_gt (tgt := 139) dX11_number_97 (by decide) (fun c97 => ?_) (fun c97 => ?_)
      · replace hE := fit hE c97
        exact aw_lv _ (List.forall_mem_cons.mpr ⟨rfl, fun _ h => absurd h List.not_mem_nil⟩) (b_X11_number_139 mo mw ms mt mu dd wi hi gt sp ta li sr co hb n hms  v1 mr _ hE hF)
      · replace hE := fif hE c97
        refine aw_bipush (v := 10) dX11_number_100 (by decide) ?_
        refine aw_iload_n dX11_number_102 rfl ?_
        refine aw_imul dX11_number_103 ?_
        refine aw_aload_n dX11_number_104 rfl ?_
        refine aw_aload_n dX11_number_105 rfl ?_
        refine aw_getf (v := .int (mr_pos mr)) dX11_number_106 flX11_84_10 at_mod rfl ?_
        refine aw_callV dX11_number_109 at_mod cvX11_99 rfl (kF_X11_b mo mw mr ms mt mu dd wi hi gt sp ta li sr co hb _ hms (mr_pos mr) (fon_ne hE hF)) rfl (Nat.le_of_ble_eq_true rfl) (by decide) (by decide) (by decide) (by decide) (fun _ _ _ hf => False.elim hf) (fun r109 h109 n109 hp109 => ?_)
        obtain ⟨z109, s109, e109, rfl, rfl, rfl⟩ := hp109
        replace hE := fon_ok e109 hE
        refine aw_iadd dX11_number_112 ?_
        refine aw_bipush (v := 48) dX11_number_113 (by decide) ?_
        refine aw_isub dX11_number_115 ?_
        refine aw_istore_n (lv2 := [(1, _), (0, _)]) dX11_number_116 (by decide) rfl ?_
        refine aw_iload_n dX11_number_117 rfl ?_
        refine aw_ldc dX11_number_118 kcX11_155 ?_
        refine aw_icmp_le (tgt := 126) dX11_number_120 (by decide) (fun c120 => ?_) (fun c120 => ?_)
        · replace hE := fit hE c120
          exact aw_lv _ (List.forall_mem_cons.mpr ⟨rfl, (List.forall_mem_cons.mpr ⟨rfl, fun _ h => absurd h List.not_mem_nil⟩)⟩) (b_X11_number_126 mo mw ms mt mu dd wi hi gt sp ta li sr co hb n hms k63 hk63 (((10 * v1) + z109) - 48) mr _ hE hF)
        · replace hE := fif hE c120
          refine aw_ldc dX11_number_123 kcX11_155 ?_
          refine aw_istore_n (lv2 := [(1, _), (0, _)]) dX11_number_125 (by decide) rfl ?_
          exact aw_lv _ (List.forall_mem_cons.mpr ⟨rfl, (List.forall_mem_cons.mpr ⟨rfl, fun _ h => absurd h List.not_mem_nil⟩)⟩) (b_X11_number_126 mo mw ms mt mu dd wi hi gt sp ta li sr co hb n hms k63 hk63 (1000000 : Int32) mr _ hE hF)
def F_X11_number_49 (sb : A)  (mr : MR) : Out MR Int32 := fon (F_X11_wrong 2 (mr_pos mr) mr) (fun z55 s55 => fok ((-1) : Int32) s55) (fun _ _ => fno)
set_option maxHeartbeats 1000000 in
set_option maxRecDepth 100000 in
theorem b_X11_number_49 (mo : MO) (mw : MW) (ms : Nat) (mt : A) (mu : A) (dd : A) (wi : A) (hi : A) (gt : A) (sp : A) (ta : A) (li : A) (sr : A) (co : A) (hb : aH) (n : Nat) (hms : isMS ms)  : Q_X11_number_49 mo mw ms mt mu dd wi hi gt sp ta li sr co hb n (F_X11_number_49 (srcB ms mt mu)) := by
  intro mr res hE hF
  unfold F_X11_number_49 at hE
  refine aw_aload_n dX11_number_49 rfl ?_
  refine aw_iconst (v := 2) dX11_number_50 (by decide) ?_
  refine aw_aload_n dX11_number_51 rfl ?_
  refine aw_getf (v := .int (mr_pos mr)) dX11_number_52 flX11_84_10 at_mod rfl ?_
  refine aw_callV dX11_number_55 at_mod cvX11_90 rfl (kF_X11_wrong mo mw mr ms mt mu dd wi hi gt sp ta li sr co hb _  2 (mr_pos mr) (fon_ne hE hF)) rfl (Nat.le_of_ble_eq_true rfl) (by decide) (by decide) (by decide) (by decide) (fun _ _ _ hf => False.elim hf) (fun r55 h55 n55 hp55 => ?_)
  obtain ⟨z55, s55, e55, rfl, rfl, rfl⟩ := hp55
  replace hE := fon_ok e55 hE
  refine aw_pop dX11_number_58 rfl ?_
  refine aw_iconst (v := (-1)) dX11_number_59 (by decide) ?_
  exact aw_iret dX11_number_60 rfl (Nat.zero_le _) (Nat.zero_le _) (Nat.zero_le _) (Nat.zero_le _) ⟨_, _, hE.symm, rfl, rfl, rfl⟩
def F_X11_number (sb : A) (mr : MR) : Out MR Int32 := if (mr_pos mr) = (mr_size mr) then (fon (F_X11_wrong 1 (mr_size mr) mr) (fun z17 s17 => fok ((-1) : Int32) s17) (fun _ _ => fno)) else (fon (F_X11_b (mr_pos mr) sb) (fun z28 s28 => if z28 < 48 then (F_X11_number_49 sb mr) else (fon (F_X11_b (mr_pos mr) sb) (fun z41 s41 => if z41 ≤ 57 then (lp (fun _ _ => fno) (F_X11_number_63 sb) FU (0 : Int32) mr) else (F_X11_number_49 sb mr)) (fun _ _ => fno))) (fun _ _ => fno))
set_option maxHeartbeats 1000000 in
set_option maxRecDepth 100000 in
theorem kF_X11_number (mo : MO) (mw : MW) (mr : MR) (ms : Nat) (mt : A) (mu : A) (dd : A) (wi : A) (hi : A) (gt : A) (sp : A) (ta : A) (li : A) (sr : A) (co : A) (hb : aH) (n : Nat) (hms : isMS ms)  (hF : F_X11_number (srcB ms mt mu) mr ≠ fno) : AM mX11_number 2 [.ref 31] (HM mo mw mr ms mt mu dd wi hi gt sp ta li sr co hb) n 0 0 0 0 (P_X11_number mo mw ms mt mu dd wi hi gt sp ta li sr co hb n (F_X11_number (srcB ms mt mu) mr)) (fun _ _ _ => False) := by
  generalize hE : F_X11_number (srcB ms mt mu) mr = res at hF ⊢
  refine aw_of (by decide +kernel) rfl (Nat.le_of_ble_eq_true rfl) ?_
  unfold F_X11_number at hE
  refine aw_aload_n dX11_number_0 rfl ?_
  refine aw_getf (v := .int (mr_pos mr)) dX11_number_1 flX11_84_10 at_mod rfl ?_
  refine aw_aload_n dX11_number_4 rfl ?_
  refine aw_getf (v := .int (mr_size mr)) dX11_number_5 flX11_87_10 at_mod rfl ?_
  refine aw_icmp_ne (tgt := 23) dX11_number_8 (by decide) (fun c8 => ?_) (fun c8 => ?_)
  · replace hE := fif hE c8
    refine aw_aload_n dX11_number_23 rfl ?_
    refine aw_aload_n dX11_number_24 rfl ?_
    refine aw_getf (v := .int (mr_pos mr)) dX11_number_25 flX11_84_10 at_mod rfl ?_
    refine aw_callV dX11_number_28 at_mod cvX11_99 rfl (kF_X11_b mo mw mr ms mt mu dd wi hi gt sp ta li sr co hb _ hms (mr_pos mr) (fon_ne hE hF)) rfl (Nat.le_of_ble_eq_true rfl) (by decide) (by decide) (by decide) (by decide) (fun _ _ _ hf => False.elim hf) (fun r28 h28 n28 hp28 => ?_)
    obtain ⟨z28, s28, e28, rfl, rfl, rfl⟩ := hp28
    replace hE := fon_ok e28 hE
    refine aw_bipush (v := 48) dX11_number_31 (by decide) ?_
    refine aw_icmp_lt (tgt := 49) dX11_number_33 (by decide) (fun c33 => ?_) (fun c33 => ?_)
    · replace hE := fit hE c33
      exact aw_lv _ (List.forall_mem_cons.mpr ⟨rfl, fun _ h => absurd h List.not_mem_nil⟩) (b_X11_number_49 mo mw ms mt mu dd wi hi gt sp ta li sr co hb n hms  mr _ hE hF)
    · replace hE := fif hE c33
      refine aw_aload_n dX11_number_36 rfl ?_
      refine aw_aload_n dX11_number_37 rfl ?_
      refine aw_getf (v := .int (mr_pos mr)) dX11_number_38 flX11_84_10 at_mod rfl ?_
      refine aw_callV dX11_number_41 at_mod cvX11_99 rfl (kF_X11_b mo mw mr ms mt mu dd wi hi gt sp ta li sr co hb _ hms (mr_pos mr) (fon_ne hE hF)) rfl (Nat.le_of_ble_eq_true rfl) (by decide) (by decide) (by decide) (by decide) (fun _ _ _ hf => False.elim hf) (fun r41 h41 n41 hp41 => ?_)
      obtain ⟨z41, s41, e41, rfl, rfl, rfl⟩ := hp41
      replace hE := fon_ok e41 hE
      refine aw_bipush (v := 57) dX11_number_44 (by decide) ?_
      refine aw_icmp_le (tgt := 61) dX11_number_46 (by decide) (fun c46 => ?_) (fun c46 => ?_)
      · replace hE := fit hE c46
        refine aw_iconst (v := 0) dX11_number_61 (by decide) ?_
        refine aw_istore_n (lv2 := [(1, _), (0, _)]) dX11_number_62 (by decide) rfl ?_
        exact aw_lv _ (List.forall_mem_cons.mpr ⟨rfl, (List.forall_mem_cons.mpr ⟨rfl, fun _ h => absurd h List.not_mem_nil⟩)⟩) (lp_ind (Q_X11_number_63 mo mw ms mt mu dd wi hi gt sp ta li sr co hb n) (fun _ _ res hq hF => (hF hq.symm).elim) (fun k hk => b_X11_number_63 mo mw ms mt mu dd wi hi gt sp ta li sr co hb n hms  k hk) FU (0 : Int32) mr _ hE hF)
      · replace hE := fif hE c46
        exact aw_lv _ (List.forall_mem_cons.mpr ⟨rfl, fun _ h => absurd h List.not_mem_nil⟩) (b_X11_number_49 mo mw ms mt mu dd wi hi gt sp ta li sr co hb n hms  mr _ hE hF)
  · replace hE := fit hE c8
    refine aw_aload_n dX11_number_11 rfl ?_
    refine aw_iconst (v := 1) dX11_number_12 (by decide) ?_
    refine aw_aload_n dX11_number_13 rfl ?_
    refine aw_getf (v := .int (mr_size mr)) dX11_number_14 flX11_87_10 at_mod rfl ?_
    refine aw_callV dX11_number_17 at_mod cvX11_90 rfl (kF_X11_wrong mo mw mr ms mt mu dd wi hi gt sp ta li sr co hb _  1 (mr_size mr) (fon_ne hE hF)) rfl (Nat.le_of_ble_eq_true rfl) (by decide) (by decide) (by decide) (by decide) (fun _ _ _ hf => False.elim hf) (fun r17 h17 n17 hp17 => ?_)
    obtain ⟨z17, s17, e17, rfl, rfl, rfl⟩ := hp17
    replace hE := fon_ok e17 hE
    refine aw_pop dX11_number_20 rfl ?_
    refine aw_iconst (v := (-1)) dX11_number_21 (by decide) ?_
    exact aw_iret dX11_number_22 rfl (Nat.zero_le _) (Nat.zero_le _) (Nat.zero_le _) (Nat.zero_le _) ⟨_, _, hE.symm, rfl, rfl, rfl⟩
def F_X11_gray (a0 : Int32) : Int32 := ((F_X11_mix a0 a0 a0 255) : Int32)
set_option maxRecDepth 100000 in
theorem kF_X11_gray (h : aH) (n : Nat) (a0 : Int32) : AM mX11_gray 2 [.int a0] h n 0 0 0 0 (isV (.int (F_X11_gray a0)) h n) noX := by
  generalize hE : F_X11_gray a0 = res
  refine aw_of (by decide +kernel) rfl (Nat.le_of_ble_eq_true rfl) ?_
  unfold F_X11_gray at hE
  refine aw_iload_n dX11_gray_0 rfl ?_
  refine aw_iload_n dX11_gray_1 rfl ?_
  refine aw_iload_n dX11_gray_2 rfl ?_
  refine aw_sipush (v := 255) dX11_gray_3 (by decide) ?_
  refine aw_callS dX11_gray_6  csX11_115 rfl (kF_X11_mix _ _ a0 a0 a0 255) rfl (Nat.le_of_ble_eq_true rfl) (by decide) (by decide) (by decide) (by decide) (fun _ _ _ hf => False.elim hf) (fun r6 h6 n6 hp6 => ?_)
  obtain ⟨rfl, rfl, rfl⟩ := hp6
  exact aw_iret dX11_gray_9 rfl (Nat.zero_le _) (Nat.zero_le _) (Nat.zero_le _) (Nat.zero_le _) ⟨by subst hE; rfl, rfl, rfl⟩
def P_X11_scaled (mo : MO) (mw : MW) (mr : MR) (ms : Nat) (mt : A) (mu : A) (dd : A) (wi : A) (hi : A) (gt : A) (sp : A) (ta : A) (li : A) (sr : A) (co : A) (hb : aH) (n : Nat) (res : Out Unit Int32) : Option Value → aH → Nat → Prop := fun r1 h2 n2 => ∃ (a : Int32) (s : Unit), res = fok a s ∧ r1 = some (.int a) ∧ h2 = HM mo mw mr ms mt mu dd wi hi gt sp ta li sr co hb ∧ n = n2
def F_X11_scaled (a0 : Int32) (a1 : Int32) : Out Unit Int32 := if ¬ (2 * a1) = 0 then (fok ((((510 * a0) + a1) / (2 * a1)) : Int32) ()) else fno
set_option maxHeartbeats 1000000 in
set_option maxRecDepth 100000 in
theorem kF_X11_scaled (mo : MO) (mw : MW) (mr : MR) (ms : Nat) (mt : A) (mu : A) (dd : A) (wi : A) (hi : A) (gt : A) (sp : A) (ta : A) (li : A) (sr : A) (co : A) (hb : aH) (n : Nat)  (a0 : Int32) (a1 : Int32) (hF : F_X11_scaled a0 a1 ≠ fno) : AM mX11_scaled 1 [.int a0, .int a1] (HM mo mw mr ms mt mu dd wi hi gt sp ta li sr co hb) n 0 0 0 0 (P_X11_scaled mo mw mr ms mt mu dd wi hi gt sp ta li sr co hb n (F_X11_scaled a0 a1)) (fun _ _ _ => False) := by
  generalize hE : F_X11_scaled a0 a1 = res at hF ⊢
  refine aw_of (by decide +kernel) rfl (Nat.le_of_ble_eq_true rfl) ?_
  unfold F_X11_scaled at hE
  refine aw_sipush (v := 510) dX11_scaled_0 (by decide) ?_
  refine aw_iload_n dX11_scaled_3 rfl ?_
  refine aw_imul dX11_scaled_4 ?_
  refine aw_iload_n dX11_scaled_5 rfl ?_
  refine aw_iadd dX11_scaled_6 ?_
  refine aw_iconst (v := 2) dX11_scaled_7 (by decide) ?_
  refine aw_iload_n dX11_scaled_8 rfl ?_
  refine aw_imul dX11_scaled_9 ?_
  obtain ⟨g10, hE⟩ := fgd hE hF
  refine aw_idiv dX11_scaled_10 g10 ?_
  exact aw_iret dX11_scaled_11 rfl (Nat.zero_le _) (Nat.zero_le _) (Nat.zero_le _) (Nat.zero_le _) ⟨_, _, hE.symm, rfl, rfl, rfl⟩
def P_X11_low (mo : MO) (mw : MW) (mr : MR) (ms : Nat) (mt : A) (mu : A) (dd : A) (wi : A) (hi : A) (gt : A) (sp : A) (ta : A) (li : A) (sr : A) (co : A) (hb : aH) (n : Nat) (res : Out Unit Int64) : Option Value → aH → Nat → Prop := fun r1 h2 n2 => ∃ (a : Int64) (s : Unit), res = fok a s ∧ r1 = some (.long a) ∧ h2 = HM mo mw mr ms mt mu dd wi hi gt sp ta li sr co hb ∧ n = n2
abbrev Q_X11_low_7 (mo : MO) (mw : MW) (mr : MR) (ms : Nat) (mt : A) (mu : A) (dd : A) (wi : A) (hi : A) (gt : A) (sp : A) (ta : A) (li : A) (sr : A) (co : A) (hb : aH) (n : Nat) (k : Int32 → Int64 → Int32 → Out Unit Int64) : Prop := ∀ (v1 : Int32) (v3 : Int64) (v5 : Int32) (res : Out Unit Int64), k v1 v3 v5 = res → res ≠ fno → AW (fun _ _ => True) mX11_low (rmD 2 0 0) 0 0 (P_X11_low mo mw mr ms mt mu dd wi hi gt sp ta li sr co hb n res) (fun _ _ _ => False) 0 0 7 [(0, .ref 31), (1, .int v1), (3, .long v3), (5, .int v5)] [] (HM mo mw mr ms mt mu dd wi hi gt sp ta li sr co hb) n
def F_X11_low_7 (sb : A) (k7 : Int32 → Int64 → Int32 → Out Unit Int64) (v1 : Int32) (v3 : Int64) (v5 : Int32) : Out Unit Int64 := if v5 < 0 then (fok (v3 : Int64) ()) else (fon (F_X11_b (v1 + v5) sb) (fun z22 s22 => k7 v1 ((256 * v3) + (z22).toInt64) (v5 + (-1))) (fun _ _ => fno))
set_option maxHeartbeats 1000000 in
set_option maxRecDepth 100000 in
theorem b_X11_low_7 (mo : MO) (mw : MW) (mr : MR) (ms : Nat) (mt : A) (mu : A) (dd : A) (wi : A) (hi : A) (gt : A) (sp : A) (ta : A) (li : A) (sr : A) (co : A) (hb : aH) (n : Nat) (hms : isMS ms) (k7 : Int32 → Int64 → Int32 → Out Unit Int64) (hk7 : Q_X11_low_7 mo mw mr ms mt mu dd wi hi gt sp ta li sr co hb n k7) : Q_X11_low_7 mo mw mr ms mt mu dd wi hi gt sp ta li sr co hb n (F_X11_low_7 (srcB ms mt mu) k7) := by
  intro v1 v3 v5 res hE hF
  unfold F_X11_low_7 at hE
  refine aw_iload dX11_low_7 rfl ?_
  refine aw_if_lt (tgt := 34) dX11_low_9 (by decide) (fun c9 => ?_) (fun c9 => ?_)
  · replace hE := fit hE c9
    refine aw_lload_n dX11_low_34 rfl ?_
    exact aw_lret dX11_low_35 rfl (Nat.zero_le _) (Nat.zero_le _) (Nat.zero_le _) (Nat.zero_le _) ⟨_, _, hE.symm, rfl, rfl, rfl⟩
  · replace hE := fif hE c9
    refine aw_ldc2 dX11_low_12 kcX11_97 ?_
    refine aw_lload_n dX11_low_15 rfl ?_
    refine aw_lmul dX11_low_16 ?_
    refine aw_aload_n dX11_low_17 rfl ?_
    refine aw_iload_n dX11_low_18 rfl ?_
    refine aw_iload dX11_low_19 rfl ?_
    refine aw_iadd dX11_low_21 ?_
    refine aw_callV dX11_low_22 at_mod cvX11_99 rfl (kF_X11_b mo mw mr ms mt mu dd wi hi gt sp ta li sr co hb _ hms (v1 + v5) (fon_ne hE hF)) rfl (Nat.le_of_ble_eq_true rfl) (by decide) (by decide) (by decide) (by decide) (fun _ _ _ hf => False.elim hf) (fun r22 h22 n22 hp22 => ?_)
    obtain ⟨z22, s22, e22, rfl, rfl, rfl⟩ := hp22
    replace hE := fon_ok e22 hE
    refine aw_i2l dX11_low_25 ?_
    refine aw_ladd dX11_low_26 ?_
    refine aw_lstore_n (lv2 := [(3, _), (0, _), (1, _), (5, _)]) dX11_low_27 (by decide) rfl ?_
    refine aw_iinc (v := (v5 + (-1))) (lv2 := [(5, _), (3, _), (0, _), (1, _)]) dX11_low_28 rfl (incE (by decide)) (by decide) rfl ?_
    refine aw_goto (tgt := 7) dX11_low_31 (by decide) ?_
    exact aw_lv _ (List.forall_mem_cons.mpr ⟨rfl, (List.forall_mem_cons.mpr ⟨rfl, (List.forall_mem_cons.mpr ⟨rfl, (List.forall_mem_cons.mpr ⟨rfl, fun _ h => absurd h List.not_mem_nil⟩)⟩)⟩)⟩) (hk7 v1 ((256 * v3) + (z22).toInt64) (v5 + (-1)) _ hE hF)
def F_X11_low (a1 : Int32) (a2 : Int32) (sb : A) : Out Unit Int64 := lp (fun _ _ _ => fno) (F_X11_low_7 sb) FU a1 (0 : Int64) (a2 - 1)
set_option maxHeartbeats 1000000 in
set_option maxRecDepth 100000 in
theorem kF_X11_low (mo : MO) (mw : MW) (mr : MR) (ms : Nat) (mt : A) (mu : A) (dd : A) (wi : A) (hi : A) (gt : A) (sp : A) (ta : A) (li : A) (sr : A) (co : A) (hb : aH) (n : Nat) (hms : isMS ms) (a1 : Int32) (a2 : Int32) (hF : F_X11_low a1 a2 (srcB ms mt mu) ≠ fno) : AM mX11_low 2 [.ref 31, .int a1, .int a2] (HM mo mw mr ms mt mu dd wi hi gt sp ta li sr co hb) n 0 0 0 0 (P_X11_low mo mw mr ms mt mu dd wi hi gt sp ta li sr co hb n (F_X11_low a1 a2 (srcB ms mt mu))) (fun _ _ _ => False) := by
  generalize hE : F_X11_low a1 a2 (srcB ms mt mu) = res at hF ⊢
  refine aw_of (by decide +kernel) rfl (Nat.le_of_ble_eq_true rfl) ?_
  unfold F_X11_low at hE
  refine aw_lconst (v := 0) dX11_low_0 (by decide) ?_
  refine aw_lstore_n (lv2 := [(3, _), (0, _), (1, _), (2, _)]) dX11_low_1 (by decide) rfl ?_
  refine aw_iload_n dX11_low_2 rfl ?_
  refine aw_iconst (v := 1) dX11_low_3 (by decide) ?_
  refine aw_isub dX11_low_4 ?_
  refine aw_istore (lv2 := [(5, _), (3, _), (0, _), (1, _), (2, _)]) dX11_low_5 (by decide) rfl ?_
  exact aw_lv _ (List.forall_mem_cons.mpr ⟨rfl, (List.forall_mem_cons.mpr ⟨rfl, (List.forall_mem_cons.mpr ⟨rfl, (List.forall_mem_cons.mpr ⟨rfl, fun _ h => absurd h List.not_mem_nil⟩)⟩)⟩)⟩) (lp_ind (Q_X11_low_7 mo mw mr ms mt mu dd wi hi gt sp ta li sr co hb n) (fun _ _ _ res hq hF => (hF hq.symm).elim) (fun k hk => b_X11_low_7 mo mw mr ms mt mu dd wi hi gt sp ta li sr co hb n hms  k hk) FU a1 (0 : Int64) (a2 - 1) _ hE hF)
def F_X11_fifth (a0 : Int32) : Int32 := ((((510 * a0) + 31) / 62) : Int32)
set_option maxRecDepth 100000 in
theorem kF_X11_fifth (h : aH) (n : Nat) (a0 : Int32) : AM mX11_fifth 1 [.int a0] h n 0 0 0 0 (isV (.int (F_X11_fifth a0)) h n) noX := by
  generalize hE : F_X11_fifth a0 = res
  refine aw_of (by decide +kernel) rfl (Nat.le_of_ble_eq_true rfl) ?_
  unfold F_X11_fifth at hE
  refine aw_sipush (v := 510) dX11_fifth_0 (by decide) ?_
  refine aw_iload_n dX11_fifth_3 rfl ?_
  refine aw_imul dX11_fifth_4 ?_
  refine aw_bipush (v := 31) dX11_fifth_5 (by decide) ?_
  refine aw_iadd dX11_fifth_7 ?_
  refine aw_bipush (v := 62) dX11_fifth_8 (by decide) ?_
  refine aw_idiv dX11_fifth_10 (by decide) ?_
  exact aw_iret dX11_fifth_11 rfl (Nat.zero_le _) (Nat.zero_le _) (Nat.zero_le _) (Nat.zero_le _) ⟨by subst hE; rfl, rfl, rfl⟩
def P_X11_put (mo : MO) (mw : MW) (mr : MR) (ms : Nat) (mt : A) (mu : A) (dd : A) (wi : A) (hi : A) (sp : A) (ta : A) (li : A) (sr : A) (co : A) (hb : aH) (n : Nat) (res : Out A Unit) : Option Value → aH → Nat → Prop := fun r1 h2 n2 => ∃ (a : Unit) (s : A), res = fok a s ∧ r1 = none ∧ h2 = HM mo mw mr ms mt mu dd wi hi s sp ta li sr co hb ∧ n = n2
def F_X11_put (a1 : Int32) (a2 : Int32) (a3 : Int32) (mr : MR) (gt : A) (ta : A) : Out A Unit := if inb a3 65536 then (if inb (((mr_gw mr) * (((mr_gh mr) - 1) - a2)) + a1) 4096 then (fok () (upd gt (Int32.toNatClampNeg (((mr_gw mr) * (((mr_gh mr) - 1) - a2)) + a1)) (ta (Int32.toNatClampNeg a3)))) else fno) else fno
set_option maxHeartbeats 1000000 in
set_option maxRecDepth 100000 in
theorem kF_X11_put (mo : MO) (mw : MW) (mr : MR) (ms : Nat) (mt : A) (mu : A) (dd : A) (wi : A) (hi : A) (gt : A) (sp : A) (ta : A) (li : A) (sr : A) (co : A) (hb : aH) (n : Nat)  (a1 : Int32) (a2 : Int32) (a3 : Int32) (hF : F_X11_put a1 a2 a3 mr gt ta ≠ fno) : AM mX11_put 1 [.ref 31, .int a1, .int a2, .int a3] (HM mo mw mr ms mt mu dd wi hi gt sp ta li sr co hb) n 0 0 0 0 (P_X11_put mo mw mr ms mt mu dd wi hi sp ta li sr co hb n (F_X11_put a1 a2 a3 mr gt ta)) (fun _ _ _ => False) := by
  generalize hE : F_X11_put a1 a2 a3 mr gt ta = res at hF ⊢
  refine aw_of (by decide +kernel) rfl (Nat.le_of_ble_eq_true rfl) ?_
  unfold F_X11_put at hE
  refine aw_aload_n dX11_put_0 rfl ?_
  refine aw_getf (v := .ref 37) dX11_put_1 flX11_27_10 at_mod rfl ?_
  refine aw_aload_n dX11_put_4 rfl ?_
  refine aw_getf (v := .int (mr_gw mr)) dX11_put_5 flX11_109_10 at_mod rfl ?_
  refine aw_aload_n dX11_put_8 rfl ?_
  refine aw_getf (v := .int (mr_gh mr)) dX11_put_9 flX11_112_10 at_mod rfl ?_
  refine aw_iconst (v := 1) dX11_put_12 (by decide) ?_
  refine aw_isub dX11_put_13 ?_
  refine aw_iload_n dX11_put_14 rfl ?_
  refine aw_isub dX11_put_15 ?_
  refine aw_imul dX11_put_16 ?_
  refine aw_iload_n dX11_put_17 rfl ?_
  refine aw_iadd dX11_put_18 ?_
  refine aw_aload_n dX11_put_19 rfl ?_
  refine aw_getf (v := .ref 39) dX11_put_20 flX11_49_10 at_mod rfl ?_
  refine aw_iload_n dX11_put_23 rfl ?_
  obtain ⟨g24, hE⟩ := fgd hE hF
  refine aw_iald (f := ta) dX11_put_24 at_mtable (vp_in_iff.mpr g24) ?_
  obtain ⟨g25, hE⟩ := fgd hE hF
  refine aw_iast (f := gt) dX11_put_25 at_mgot (vp_in_iff.mpr g25) ?_
  refine aw_eqh (h2 := HM mo mw mr ms mt mu dd wi hi (upd gt (Int32.toNatClampNeg (((mr_gw mr) * (((mr_gh mr) - 1) - a2)) + a1)) (ta (Int32.toNatClampNeg a3))) sp ta li sr co hb) up_mgot ?_
  exact aw_vret dX11_put_26 rfl (Nat.zero_le _) (Nat.zero_le _) (Nat.zero_le _) (Nat.zero_le _) ⟨_, _, hE.symm, rfl, rfl, rfl⟩
def P_X11_colour (mo : MO) (mw : MW) (mr : MR) (ms : Nat) (mt : A) (mu : A) (dd : A) (wi : A) (hi : A) (gt : A) (sp : A) (ta : A) (li : A) (sr : A) (co : A) (hb : aH) (n : Nat) (res : Out Unit Int32) : Option Value → aH → Nat → Prop := fun r1 h2 n2 => ∃ (a : Int32) (s : Unit), res = fok a s ∧ r1 = some (.int a) ∧ h2 = HM mo mw mr ms mt mu dd wi hi gt sp ta li sr co hb ∧ n = n2
abbrev Q_X11_colour_47 (mo : MO) (mw : MW) (mr : MR) (ms : Nat) (mt : A) (mu : A) (dd : A) (wi : A) (hi : A) (gt : A) (sp : A) (ta : A) (li : A) (sr : A) (co : A) (hb : aH) (n : Nat) (k : Int32 → Int32 → Int32 → Out Unit Int32) : Prop := ∀ (t0 : Int32) (t1 : Int32) (t2 : Int32) (res : Out Unit Int32), k t0 t1 t2 = res → res ≠ fno → AW (fun _ _ => True) mX11_colour (rmD 3 0 0) 0 0 (P_X11_colour mo mw mr ms mt mu dd wi hi gt sp ta li sr co hb n res) (fun _ _ _ => False) 0 0 47 [] [.int t0, .int t1, .int t2] (HM mo mw mr ms mt mu dd wi hi gt sp ta li sr co hb) n
abbrev Q_X11_colour_50 (mo : MO) (mw : MW) (mr : MR) (ms : Nat) (mt : A) (mu : A) (dd : A) (wi : A) (hi : A) (gt : A) (sp : A) (ta : A) (li : A) (sr : A) (co : A) (hb : aH) (n : Nat) (k : Int32 → Int32 → Int32 → Int32 → Out Unit Int32) : Prop := ∀ (t0 : Int32) (t1 : Int32) (t2 : Int32) (t3 : Int32) (res : Out Unit Int32), k t0 t1 t2 t3 = res → res ≠ fno → AW (fun _ _ => True) mX11_colour (rmD 3 0 0) 0 0 (P_X11_colour mo mw mr ms mt mu dd wi hi gt sp ta li sr co hb n res) (fun _ _ _ => False) 0 0 50 [] [.int t0, .int t1, .int t2, .int t3] (HM mo mw mr ms mt mu dd wi hi gt sp ta li sr co hb) n
abbrev Q_X11_colour_109 (mo : MO) (mw : MW) (mr : MR) (ms : Nat) (mt : A) (mu : A) (dd : A) (wi : A) (hi : A) (gt : A) (sp : A) (ta : A) (li : A) (sr : A) (co : A) (hb : aH) (n : Nat) (k : Int32 → Int32 → Int32 → Out Unit Int32) : Prop := ∀ (t0 : Int32) (t1 : Int32) (t2 : Int32) (res : Out Unit Int32), k t0 t1 t2 = res → res ≠ fno → AW (fun _ _ => True) mX11_colour (rmD 3 0 0) 0 0 (P_X11_colour mo mw mr ms mt mu dd wi hi gt sp ta li sr co hb n res) (fun _ _ _ => False) 0 0 109 [] [.int t0, .int t1, .int t2] (HM mo mw mr ms mt mu dd wi hi gt sp ta li sr co hb) n
abbrev Q_X11_colour_112 (mo : MO) (mw : MW) (mr : MR) (ms : Nat) (mt : A) (mu : A) (dd : A) (wi : A) (hi : A) (gt : A) (sp : A) (ta : A) (li : A) (sr : A) (co : A) (hb : aH) (n : Nat) (k : Int32 → Int32 → Int32 → Int32 → Out Unit Int32) : Prop := ∀ (t0 : Int32) (t1 : Int32) (t2 : Int32) (t3 : Int32) (res : Out Unit Int32), k t0 t1 t2 t3 = res → res ≠ fno → AW (fun _ _ => True) mX11_colour (rmD 3 0 0) 0 0 (P_X11_colour mo mw mr ms mt mu dd wi hi gt sp ta li sr co hb n res) (fun _ _ _ => False) 0 0 112 [] [.int t0, .int t1, .int t2, .int t3] (HM mo mw mr ms mt mu dd wi hi gt sp ta li sr co hb) n
def F_X11_colour_112 (sb : A)  (t0 : Int32) (t1 : Int32) (t2 : Int32) (t3 : Int32) : Out Unit Int32 := fok ((F_X11_mix t3 t2 t1 t0) : Int32) ()
set_option maxHeartbeats 1000000 in
set_option maxRecDepth 100000 in
theorem b_X11_colour_112 (mo : MO) (mw : MW) (mr : MR) (ms : Nat) (mt : A) (mu : A) (dd : A) (wi : A) (hi : A) (gt : A) (sp : A) (ta : A) (li : A) (sr : A) (co : A) (hb : aH) (n : Nat) (hms : isMS ms)  : Q_X11_colour_112 mo mw mr ms mt mu dd wi hi gt sp ta li sr co hb n (F_X11_colour_112 (srcB ms mt mu)) := by
  intro t0 t1 t2 t3 res hE hF
  unfold F_X11_colour_112 at hE
  refine aw_callS dX11_colour_112  csX11_115 rfl (kF_X11_mix _ _ t3 t2 t1 t0) rfl (Nat.le_of_ble_eq_true rfl) (by decide) (by decide) (by decide) (by decide) (fun _ _ _ hf => False.elim hf) (fun r112 h112 n112 hp112 => ?_)
  obtain ⟨rfl, rfl, rfl⟩ := hp112
  exact aw_iret dX11_colour_115 rfl (Nat.zero_le _) (Nat.zero_le _) (Nat.zero_le _) (Nat.zero_le _) ⟨_, _, hE.symm, rfl, rfl, rfl⟩
def F_X11_colour_109 (sb : A)  (t0 : Int32) (t1 : Int32) (t2 : Int32) : Out Unit Int32 := F_X11_colour_112 sb (255 : Int32) t0 t1 t2
set_option maxHeartbeats 1000000 in
set_option maxRecDepth 100000 in
theorem b_X11_colour_109 (mo : MO) (mw : MW) (mr : MR) (ms : Nat) (mt : A) (mu : A) (dd : A) (wi : A) (hi : A) (gt : A) (sp : A) (ta : A) (li : A) (sr : A) (co : A) (hb : aH) (n : Nat) (hms : isMS ms)  : Q_X11_colour_109 mo mw mr ms mt mu dd wi hi gt sp ta li sr co hb n (F_X11_colour_109 (srcB ms mt mu)) := by
  intro t0 t1 t2 res hE hF
  unfold F_X11_colour_109 at hE
  refine aw_sipush (v := 255) dX11_colour_109 (by decide) ?_
  exact aw_lv _ (fun _ h => absurd h List.not_mem_nil) (b_X11_colour_112 mo mw mr ms mt mu dd wi hi gt sp ta li sr co hb n hms  (255 : Int32) t0 t1 t2 _ hE hF)
def F_X11_colour_50 (sb : A)  (t0 : Int32) (t1 : Int32) (t2 : Int32) (t3 : Int32) : Out Unit Int32 := fok ((F_X11_mix t3 t2 t1 t0) : Int32) ()
set_option maxHeartbeats 1000000 in
set_option maxRecDepth 100000 in
theorem b_X11_colour_50 (mo : MO) (mw : MW) (mr : MR) (ms : Nat) (mt : A) (mu : A) (dd : A) (wi : A) (hi : A) (gt : A) (sp : A) (ta : A) (li : A) (sr : A) (co : A) (hb : aH) (n : Nat) (hms : isMS ms)  : Q_X11_colour_50 mo mw mr ms mt mu dd wi hi gt sp ta li sr co hb n (F_X11_colour_50 (srcB ms mt mu)) := by
  intro t0 t1 t2 t3 res hE hF
  unfold F_X11_colour_50 at hE
  refine aw_callS dX11_colour_50  csX11_115 rfl (kF_X11_mix _ _ t3 t2 t1 t0) rfl (Nat.le_of_ble_eq_true rfl) (by decide) (by decide) (by decide) (by decide) (fun _ _ _ hf => False.elim hf) (fun r50 h50 n50 hp50 => ?_)
  obtain ⟨rfl, rfl, rfl⟩ := hp50
  exact aw_iret dX11_colour_53 rfl (Nat.zero_le _) (Nat.zero_le _) (Nat.zero_le _) (Nat.zero_le _) ⟨_, _, hE.symm, rfl, rfl, rfl⟩
def F_X11_colour_47 (sb : A)  (t0 : Int32) (t1 : Int32) (t2 : Int32) : Out Unit Int32 := F_X11_colour_50 sb (255 : Int32) t0 t1 t2
set_option maxHeartbeats 1000000 in
set_option maxRecDepth 100000 in
theorem b_X11_colour_47 (mo : MO) (mw : MW) (mr : MR) (ms : Nat) (mt : A) (mu : A) (dd : A) (wi : A) (hi : A) (gt : A) (sp : A) (ta : A) (li : A) (sr : A) (co : A) (hb : aH) (n : Nat) (hms : isMS ms)  : Q_X11_colour_47 mo mw mr ms mt mu dd wi hi gt sp ta li sr co hb n (F_X11_colour_47 (srcB ms mt mu)) := by
  intro t0 t1 t2 res hE hF
  unfold F_X11_colour_47 at hE
  refine aw_sipush (v := 255) dX11_colour_47 (by decide) ?_
  exact aw_lv _ (fun _ h => absurd h List.not_mem_nil) (b_X11_colour_50 mo mw mr ms mt mu dd wi hi gt sp ta li sr co hb n hms  (255 : Int32) t0 t1 t2 _ hE hF)
def F_X11_colour (a1 : Int32) (a2 : Int32) (a3 : Int32) (sb : A) : Out Unit Int32 := if a2 < 24 then (fon (F_X11_low a1 2 sb) (fun z57 s57 => if a3 = 1 then (if ((z57).toInt32 >>> ((15 : Int32) &&& 31)) = 0 then (F_X11_colour_112 sb (0 : Int32) (F_X11_fifth ((z57).toInt32 &&& 31)) (F_X11_fifth (((z57).toInt32 >>> ((5 : Int32) &&& 31)) &&& 31)) (F_X11_fifth (((z57).toInt32 >>> ((10 : Int32) &&& 31)) &&& 31))) else (F_X11_colour_109 sb (F_X11_fifth ((z57).toInt32 &&& 31)) (F_X11_fifth (((z57).toInt32 >>> ((5 : Int32) &&& 31)) &&& 31)) (F_X11_fifth (((z57).toInt32 >>> ((10 : Int32) &&& 31)) &&& 31)))) else (F_X11_colour_109 sb (F_X11_fifth ((z57).toInt32 &&& 31)) (F_X11_fifth (((z57).toInt32 >>> ((5 : Int32) &&& 31)) &&& 31)) (F_X11_fifth (((z57).toInt32 >>> ((10 : Int32) &&& 31)) &&& 31)))) (fun _ _ => fno)) else (fon (F_X11_b (a1 + 2) sb) (fun z10 s10 => fon (F_X11_b (a1 + 1) sb) (fun z17 s17 => fon (F_X11_b a1 sb) (fun z22 s22 => if a2 = 32 then (if a3 = 8 then (fon (F_X11_b (a1 + 3) sb) (fun z41 s41 => F_X11_colour_50 sb z41 z22 z17 z10) (fun _ _ => fno)) else (F_X11_colour_47 sb z22 z17 z10)) else (F_X11_colour_47 sb z22 z17 z10)) (fun _ _ => fno)) (fun _ _ => fno)) (fun _ _ => fno))
set_option maxHeartbeats 1000000 in
set_option maxRecDepth 100000 in
theorem kF_X11_colour (mo : MO) (mw : MW) (mr : MR) (ms : Nat) (mt : A) (mu : A) (dd : A) (wi : A) (hi : A) (gt : A) (sp : A) (ta : A) (li : A) (sr : A) (co : A) (hb : aH) (n : Nat) (hms : isMS ms) (a1 : Int32) (a2 : Int32) (a3 : Int32) (hF : F_X11_colour a1 a2 a3 (srcB ms mt mu) ≠ fno) : AM mX11_colour 3 [.ref 31, .int a1, .int a2, .int a3] (HM mo mw mr ms mt mu dd wi hi gt sp ta li sr co hb) n 0 0 0 0 (P_X11_colour mo mw mr ms mt mu dd wi hi gt sp ta li sr co hb n (F_X11_colour a1 a2 a3 (srcB ms mt mu))) (fun _ _ _ => False) := by
  generalize hE : F_X11_colour a1 a2 a3 (srcB ms mt mu) = res at hF ⊢
  refine aw_of (by decide +kernel) rfl (Nat.le_of_ble_eq_true rfl) ?_
  unfold F_X11_colour at hE
  refine aw_iload_n dX11_colour_0 rfl ?_
  refine aw_bipush (v := 24) dX11_colour_1 (by decide) ?_
  refine aw_icmp_lt (tgt := 54) dX11_colour_3 (by decide) (fun c3 => ?_) (fun c3 => ?_)
  · replace hE := fit hE c3
    refine aw_aload_n dX11_colour_54 rfl ?_
    refine aw_iload_n dX11_colour_55 rfl ?_
    refine aw_iconst (v := 2) dX11_colour_56 (by decide) ?_
    refine aw_callV dX11_colour_57 at_mod cvX11_183 rfl (kF_X11_low mo mw mr ms mt mu dd wi hi gt sp ta li sr co hb _ hms a1 2 (fon_ne hE hF)) rfl (Nat.le_of_ble_eq_true rfl) (by decide) (by decide) (by decide) (by decide) (fun _ _ _ hf => False.elim hf) (fun r57 h57 n57 hp57 => ?_)
    obtain ⟨z57, s57, e57, rfl, rfl, rfl⟩ := hp57
    replace hE := fon_ok e57 hE
    refine aw_l2i dX11_colour_60 ?_
    refine aw_istore (lv2 := [(4, _), (0, _), (1, _), (2, _), (3, _)]) dX11_colour_61 (by decide) rfl ?_
    refine aw_iload dX11_colour_63 rfl ?_
    refine aw_bipush (v := 10) dX11_colour_65 (by decide) ?_
    refine aw_ishr dX11_colour_67 ?_
    refine aw_bipush (v := 31) dX11_colour_68 (by decide) ?_
    refine aw_iand dX11_colour_70 ?_
    refine aw_callS dX11_colour_71  csX11_201 rfl (kF_X11_fifth _ _ (((z57).toInt32 >>> ((10 : Int32) &&& 31)) &&& 31)) rfl (Nat.le_of_ble_eq_true rfl) (by decide) (by decide) (by decide) (by decide) (fun _ _ _ hf => False.elim hf) (fun r71 h71 n71 hp71 => ?_)
    obtain ⟨rfl, rfl, rfl⟩ := hp71
    refine aw_iload dX11_colour_74 rfl ?_
    refine aw_iconst (v := 5) dX11_colour_76 (by decide) ?_
    refine aw_ishr dX11_colour_77 ?_
    refine aw_bipush (v := 31) dX11_colour_78 (by decide) ?_
    refine aw_iand dX11_colour_80 ?_
    refine aw_callS dX11_colour_81  csX11_201 rfl (kF_X11_fifth _ _ (((z57).toInt32 >>> ((5 : Int32) &&& 31)) &&& 31)) rfl (Nat.le_of_ble_eq_true rfl) (by decide) (by decide) (by decide) (by decide) (fun _ _ _ hf => False.elim hf) (fun r81 h81 n81 hp81 => ?_)
    obtain ⟨rfl, rfl, rfl⟩ := hp81
    refine aw_iload dX11_colour_84 rfl ?_
    refine aw_bipush (v := 31) dX11_colour_86 (by decide) ?_
    refine aw_iand dX11_colour_88 ?_
    refine aw_callS dX11_colour_89  csX11_201 rfl (kF_X11_fifth _ _ ((z57).toInt32 &&& 31)) rfl (Nat.le_of_ble_eq_true rfl) (by decide) (by decide) (by decide) (by decide) (fun _ _ _ hf => False.elim hf) (fun r89 h89 n89 hp89 => ?_)
    obtain ⟨rfl, rfl, rfl⟩ := hp89
    refine aw_iload_n dX11_colour_92 rfl ?_
    refine aw_iconst (v := 1) dX11_colour_93 (by decide) ?_
    refine aw_icmp_ne (tgt := 109) dX11_colour_94 (by decide) (fun c94 => ?_) (fun c94 => ?_)
    · replace hE := fif hE c94
      exact aw_lv _ (fun _ h => absurd h List.not_mem_nil) (b_X11_colour_109 mo mw mr ms mt mu dd wi hi gt sp ta li sr co hb n hms  (F_X11_fifth ((z57).toInt32 &&& 31)) (F_X11_fifth (((z57).toInt32 >>> ((5 : Int32) &&& 31)) &&& 31)) (F_X11_fifth (((z57).toInt32 >>> ((10 : Int32) &&& 31)) &&& 31)) _ hE hF)
    · replace hE := fit hE c94
      refine aw_iload dX11_colour_97 rfl ?_
      refine aw_bipush (v := 15) dX11_colour_99 (by decide) ?_
      refine aw_ishr dX11_colour_101 ?_
      refine aw_if_ne (tgt := 109) dX11_colour_102 (by decide) (fun c102 => ?_) (fun c102 => ?_)
      · replace hE := fif hE c102
        exact aw_lv _ (fun _ h => absurd h List.not_mem_nil) (b_X11_colour_109 mo mw mr ms mt mu dd wi hi gt sp ta li sr co hb n hms  (F_X11_fifth ((z57).toInt32 &&& 31)) (F_X11_fifth (((z57).toInt32 >>> ((5 : Int32) &&& 31)) &&& 31)) (F_X11_fifth (((z57).toInt32 >>> ((10 : Int32) &&& 31)) &&& 31)) _ hE hF)
      · replace hE := fit hE c102
        refine aw_iconst (v := 0) dX11_colour_105 (by decide) ?_
        refine aw_goto (tgt := 112) dX11_colour_106 (by decide) ?_
        exact aw_lv _ (fun _ h => absurd h List.not_mem_nil) (b_X11_colour_112 mo mw mr ms mt mu dd wi hi gt sp ta li sr co hb n hms  (0 : Int32) (F_X11_fifth ((z57).toInt32 &&& 31)) (F_X11_fifth (((z57).toInt32 >>> ((5 : Int32) &&& 31)) &&& 31)) (F_X11_fifth (((z57).toInt32 >>> ((10 : Int32) &&& 31)) &&& 31)) _ hE hF)
  · replace hE := fif hE c3
    refine aw_aload_n dX11_colour_6 rfl ?_
    refine aw_iload_n dX11_colour_7 rfl ?_
    refine aw_iconst (v := 2) dX11_colour_8 (by decide) ?_
    refine aw_iadd dX11_colour_9 ?_
    refine aw_callV dX11_colour_10 at_mod cvX11_99 rfl (kF_X11_b mo mw mr ms mt mu dd wi hi gt sp ta li sr co hb _ hms (a1 + 2) (fon_ne hE hF)) rfl (Nat.le_of_ble_eq_true rfl) (by decide) (by decide) (by decide) (by decide) (fun _ _ _ hf => False.elim hf) (fun r10 h10 n10 hp10 => ?_)
    obtain ⟨z10, s10, e10, rfl, rfl, rfl⟩ := hp10
    replace hE := fon_ok e10 hE
    refine aw_aload_n dX11_colour_13 rfl ?_
    refine aw_iload_n dX11_colour_14 rfl ?_
    refine aw_iconst (v := 1) dX11_colour_15 (by decide) ?_
    refine aw_iadd dX11_colour_16 ?_
    refine aw_callV dX11_colour_17 at_mod cvX11_99 rfl (kF_X11_b mo mw mr ms mt mu dd wi hi gt sp ta li sr co hb _ hms (a1 + 1) (fon_ne hE hF)) rfl (Nat.le_of_ble_eq_true rfl) (by decide) (by decide) (by decide) (by decide) (fun _ _ _ hf => False.elim hf) (fun r17 h17 n17 hp17 => ?_)
    obtain ⟨z17, s17, e17, rfl, rfl, rfl⟩ := hp17
    replace hE := fon_ok e17 hE
    refine aw_aload_n dX11_colour_20 rfl ?_
    refine aw_iload_n dX11_colour_21 rfl ?_
    refine aw_callV dX11_colour_22 at_mod cvX11_99 rfl (kF_X11_b mo mw mr ms mt mu dd wi hi gt sp ta li sr co hb _ hms a1 (fon_ne hE hF)) rfl (Nat.le_of_ble_eq_true rfl) (by decide) (by decide) (by decide) (by decide) (fun _ _ _ hf => False.elim hf) (fun r22 h22 n22 hp22 => ?_)
    obtain ⟨z22, s22, e22, rfl, rfl, rfl⟩ := hp22
    replace hE := fon_ok e22 hE
    refine aw_iload_n dX11_colour_25 rfl ?_
    refine aw_bipush (v := 32) dX11_colour_26 (by decide) ?_
    refine aw_icmp_ne (tgt := 47) dX11_colour_28 (by decide) (fun c28 => ?_) (fun c28 => ?_)
    · replace hE := fif hE c28
      exact aw_lv _ (fun _ h => absurd h List.not_mem_nil) (b_X11_colour_47 mo mw mr ms mt mu dd wi hi gt sp ta li sr co hb n hms  z22 z17 z10 _ hE hF)
    · replace hE := fit hE c28
      refine aw_iload_n dX11_colour_31 rfl ?_
      refine aw_bipush (v := 8) dX11_colour_32 (by decide) ?_
      refine aw_icmp_ne (tgt := 47) dX11_colour_34 (by decide) (fun c34 => ?_) (fun c34 => ?_)
      · replace hE := fif hE c34
        exact aw_lv _ (fun _ h => absurd h List.not_mem_nil) (b_X11_colour_47 mo mw mr ms mt mu dd wi hi gt sp ta li sr co hb n hms  z22 z17 z10 _ hE hF)
      · replace hE := fit hE c34
        refine aw_aload_n dX11_colour_37 rfl ?_
        refine aw_iload_n dX11_colour_38 rfl ?_
        refine aw_iconst (v := 3) dX11_colour_39 (by decide) ?_
        refine aw_iadd dX11_colour_40 ?_
        refine aw_callV dX11_colour_41 at_mod cvX11_99 rfl (kF_X11_b mo mw mr ms mt mu dd wi hi gt sp ta li sr co hb _ hms (a1 + 3) (fon_ne hE hF)) rfl (Nat.le_of_ble_eq_true rfl) (by decide) (by decide) (by decide) (by decide) (fun _ _ _ hf => False.elim hf) (fun r41 h41 n41 hp41 => ?_)
        obtain ⟨z41, s41, e41, rfl, rfl, rfl⟩ := hp41
        replace hE := fon_ok e41 hE
        refine aw_goto (tgt := 50) dX11_colour_44 (by decide) ?_
        exact aw_lv _ (fun _ h => absurd h List.not_mem_nil) (b_X11_colour_50 mo mw mr ms mt mu dd wi hi gt sp ta li sr co hb n hms  z41 z22 z17 z10 _ hE hF)
def P_X11_keep (mw : MW) (mr : MR) (ms : Nat) (mt : A) (mu : A) (gt : A) (sp : A) (ta : A) (li : A) (sr : A) (co : A) (hb : aH) (n : Nat) (res : Out (MO × A × A × A) Unit) : Option Value → aH → Nat → Prop := fun r1 h2 n2 => ∃ (a : Unit) (s : (MO × A × A × A)), res = fok a s ∧ r1 = none ∧ h2 = HM s.1 mw mr ms mt mu s.2.1 s.2.2.1 s.2.2.2 gt sp ta li sr co hb ∧ n = n2
abbrev Q_X11_keep_22 (mw : MW) (mr : MR) (ms : Nat) (mt : A) (mu : A) (gt : A) (sp : A) (ta : A) (li : A) (sr : A) (co : A) (hb : aH) (n : Nat) (k : Int32 → Int32 → Int32 → MO → A → A → A → Out (MO × A × A × A) Unit) : Prop := ∀ (v1 : Int32) (v2 : Int32) (v3 : Int32) (mo : MO) (dd : A) (wi : A) (hi : A) (res : Out (MO × A × A × A) Unit), k v1 v2 v3 mo dd wi hi = res → res ≠ fno → AW (fun _ _ => True) mX11_keep (rmD 1 0 0) 0 0 (P_X11_keep mw mr ms mt mu gt sp ta li sr co hb n res) (fun _ _ _ => False) 0 0 22 [(0, .ref 31), (1, .int v1), (2, .int v2), (3, .int v3)] [] (HM mo mw mr ms mt mu dd wi hi gt sp ta li sr co hb) n
def F_X11_keep_22 (mr : MR) (gt : A) (k22 : Int32 → Int32 → Int32 → MO → A → A → A → Out (MO × A × A × A) Unit) (v1 : Int32) (v2 : Int32) (v3 : Int32) (mo : MO) (dd : A) (wi : A) (hi : A) : Out (MO × A × A × A) Unit := if ((mr_gw mr) * (mr_gh mr)) ≤ v3 then (fok () (((mo_taped mo), (mo_thrown mo), v1, (mr_one mr), (mr_two mr), (mr_three mr), (mo_fp mo)), dd, wi, hi)) else (if inb v3 4096 then (if inb ((4096 * v2) + v3) 16384 then (k22 v1 v2 (v3 + 1) mo (upd dd (Int32.toNatClampNeg ((4096 * v2) + v3)) (gt (Int32.toNatClampNeg v3))) wi hi) else fno) else fno)
set_option maxHeartbeats 1000000 in
set_option maxRecDepth 100000 in
theorem b_X11_keep_22 (mw : MW) (mr : MR) (ms : Nat) (mt : A) (mu : A) (gt : A) (sp : A) (ta : A) (li : A) (sr : A) (co : A) (hb : aH) (n : Nat)  (k22 : Int32 → Int32 → Int32 → MO → A → A → A → Out (MO × A × A × A) Unit) (hk22 : Q_X11_keep_22 mw mr ms mt mu gt sp ta li sr co hb n k22) : Q_X11_keep_22 mw mr ms mt mu gt sp ta li sr co hb n (F_X11_keep_22 mr gt k22) := by
  intro v1 v2 v3 mo dd wi hi res hE hF
  unfold F_X11_keep_22 at hE
  refine aw_iload_n dX11_keep_22 rfl ?_
  refine aw_aload_n dX11_keep_23 rfl ?_
  refine aw_getf (v := .int (mr_gw mr)) dX11_keep_24 flX11_109_10 at_mod rfl ?_
  refine aw_aload_n dX11_keep_27 rfl ?_
  refine aw_getf (v := .int (mr_gh mr)) dX11_keep_28 flX11_112_10 at_mod rfl ?_
  refine aw_imul dX11_keep_31 ?_
  refine aw_icmp_ge (tgt := 59) dX11_keep_32 (by decide) (fun c32 => ?_) (fun c32 => ?_)
  · replace hE := fit hE c32
    refine aw_aload_n dX11_keep_59 rfl ?_
    refine aw_iload_n dX11_keep_60 rfl ?_
    refine aw_putf dX11_keep_61 ptX11_30_10 at_mod (Nat.le_of_ble_eq_true rfl) ⟨rfl, rfl⟩ ?_
    refine aw_eqh (h2 := HM ((mo_taped mo), (mo_thrown mo), v1, (mo_t1 mo), (mo_t2 mo), (mo_t3 mo), (mo_fp mo)) mw mr ms mt mu dd wi hi gt sp ta li sr co hb) up_mod ?_
    refine aw_aload_n dX11_keep_64 rfl ?_
    refine aw_aload_n dX11_keep_65 rfl ?_
    refine aw_getf (v := .int (mr_one mr)) dX11_keep_66 flX11_130_10 at_mod rfl ?_
    refine aw_putf dX11_keep_69 ptX11_34_10 at_mod (Nat.le_of_ble_eq_true rfl) ⟨rfl, rfl⟩ ?_
    refine aw_eqh (h2 := HM ((mo_taped mo), (mo_thrown mo), v1, (mr_one mr), (mo_t2 mo), (mo_t3 mo), (mo_fp mo)) mw mr ms mt mu dd wi hi gt sp ta li sr co hb) up_mod ?_
    refine aw_aload_n dX11_keep_72 rfl ?_
    refine aw_aload_n dX11_keep_73 rfl ?_
    refine aw_getf (v := .int (mr_two mr)) dX11_keep_74 flX11_133_10 at_mod rfl ?_
    refine aw_putf dX11_keep_77 ptX11_37_10 at_mod (Nat.le_of_ble_eq_true rfl) ⟨rfl, rfl⟩ ?_
    refine aw_eqh (h2 := HM ((mo_taped mo), (mo_thrown mo), v1, (mr_one mr), (mr_two mr), (mo_t3 mo), (mo_fp mo)) mw mr ms mt mu dd wi hi gt sp ta li sr co hb) up_mod ?_
    refine aw_aload_n dX11_keep_80 rfl ?_
    refine aw_aload_n dX11_keep_81 rfl ?_
    refine aw_getf (v := .int (mr_three mr)) dX11_keep_82 flX11_136_10 at_mod rfl ?_
    refine aw_putf dX11_keep_85 ptX11_40_10 at_mod (Nat.le_of_ble_eq_true rfl) ⟨rfl, rfl⟩ ?_
    refine aw_eqh (h2 := HM ((mo_taped mo), (mo_thrown mo), v1, (mr_one mr), (mr_two mr), (mr_three mr), (mo_fp mo)) mw mr ms mt mu dd wi hi gt sp ta li sr co hb) up_mod ?_
    exact aw_vret dX11_keep_88 rfl (Nat.zero_le _) (Nat.zero_le _) (Nat.zero_le _) (Nat.zero_le _) ⟨_, _, hE.symm, rfl, rfl, rfl⟩
  · replace hE := fif hE c32
    refine aw_aload_n dX11_keep_35 rfl ?_
    refine aw_getf (v := .ref 34) dX11_keep_36 flX11_17_10 at_mod rfl ?_
    refine aw_sipush (v := 4096) dX11_keep_39 (by decide) ?_
    refine aw_iload_n dX11_keep_42 rfl ?_
    refine aw_imul dX11_keep_43 ?_
    refine aw_iload_n dX11_keep_44 rfl ?_
    refine aw_iadd dX11_keep_45 ?_
    refine aw_aload_n dX11_keep_46 rfl ?_
    refine aw_getf (v := .ref 37) dX11_keep_47 flX11_27_10 at_mod rfl ?_
    refine aw_iload_n dX11_keep_50 rfl ?_
    obtain ⟨g51, hE⟩ := fgd hE hF
    refine aw_iald (f := gt) dX11_keep_51 at_mgot (vp_in_iff.mpr g51) ?_
    obtain ⟨g52, hE⟩ := fgd hE hF
    refine aw_iast (f := dd) dX11_keep_52 at_mdots (vp_in_iff.mpr g52) ?_
    refine aw_eqh (h2 := HM mo mw mr ms mt mu (upd dd (Int32.toNatClampNeg ((4096 * v2) + v3)) (gt (Int32.toNatClampNeg v3))) wi hi gt sp ta li sr co hb) up_mdots ?_
    refine aw_iinc (v := (v3 + 1)) (lv2 := [(3, _), (0, _), (1, _), (2, _)]) dX11_keep_53 rfl (incE (by decide)) (by decide) rfl ?_
    refine aw_goto (tgt := 22) dX11_keep_56 (by decide) ?_
    exact aw_lv _ (List.forall_mem_cons.mpr ⟨rfl, (List.forall_mem_cons.mpr ⟨rfl, (List.forall_mem_cons.mpr ⟨rfl, (List.forall_mem_cons.mpr ⟨rfl, fun _ h => absurd h List.not_mem_nil⟩)⟩)⟩)⟩) (hk22 v1 v2 (v3 + 1) mo (upd dd (Int32.toNatClampNeg ((4096 * v2) + v3)) (gt (Int32.toNatClampNeg v3))) wi hi _ hE hF)
def F_X11_keep (a1 : Int32) (a2 : Int32) (mo : MO) (mr : MR) (dd : A) (wi : A) (hi : A) (gt : A) : Out (MO × A × A × A) Unit := if inb a2 4 then (if inb a2 4 then (lp (fun _ _ _ _ _ _ _ => fno) (F_X11_keep_22 mr gt) FU a1 a2 (0 : Int32) mo dd (upd wi (Int32.toNatClampNeg a2) (mr_gw mr)) (upd hi (Int32.toNatClampNeg a2) (mr_gh mr))) else fno) else fno
set_option maxHeartbeats 1000000 in
set_option maxRecDepth 100000 in
theorem kF_X11_keep (mo : MO) (mw : MW) (mr : MR) (ms : Nat) (mt : A) (mu : A) (dd : A) (wi : A) (hi : A) (gt : A) (sp : A) (ta : A) (li : A) (sr : A) (co : A) (hb : aH) (n : Nat)  (a1 : Int32) (a2 : Int32) (hF : F_X11_keep a1 a2 mo mr dd wi hi gt ≠ fno) : AM mX11_keep 1 [.ref 31, .int a1, .int a2] (HM mo mw mr ms mt mu dd wi hi gt sp ta li sr co hb) n 0 0 0 0 (P_X11_keep mw mr ms mt mu gt sp ta li sr co hb n (F_X11_keep a1 a2 mo mr dd wi hi gt)) (fun _ _ _ => False) := by
  generalize hE : F_X11_keep a1 a2 mo mr dd wi hi gt = res at hF ⊢
  refine aw_of (by decide +kernel) rfl (Nat.le_of_ble_eq_true rfl) ?_
  unfold F_X11_keep at hE
  refine aw_aload_n dX11_keep_0 rfl ?_
  refine aw_getf (v := .ref 35) dX11_keep_1 flX11_21_10 at_mod rfl ?_
  refine aw_iload_n dX11_keep_4 rfl ?_
  refine aw_aload_n dX11_keep_5 rfl ?_
  refine aw_getf (v := .int (mr_gw mr)) dX11_keep_6 flX11_109_10 at_mod rfl ?_
  obtain ⟨g9, hE⟩ := fgd hE hF
  refine aw_iast (f := wi) dX11_keep_9 at_mwide (vp_in_iff.mpr g9) ?_
  refine aw_eqh (h2 := HM mo mw mr ms mt mu dd (upd wi (Int32.toNatClampNeg a2) (mr_gw mr)) hi gt sp ta li sr co hb) up_mwide ?_
  refine aw_aload_n dX11_keep_10 rfl ?_
  refine aw_getf (v := .ref 36) dX11_keep_11 flX11_24_10 at_mod rfl ?_
  refine aw_iload_n dX11_keep_14 rfl ?_
  refine aw_aload_n dX11_keep_15 rfl ?_
  refine aw_getf (v := .int (mr_gh mr)) dX11_keep_16 flX11_112_10 at_mod rfl ?_
  obtain ⟨g19, hE⟩ := fgd hE hF
  refine aw_iast (f := hi) dX11_keep_19 at_mhigh (vp_in_iff.mpr g19) ?_
  refine aw_eqh (h2 := HM mo mw mr ms mt mu dd (upd wi (Int32.toNatClampNeg a2) (mr_gw mr)) (upd hi (Int32.toNatClampNeg a2) (mr_gh mr)) gt sp ta li sr co hb) up_mhigh ?_
  refine aw_iconst (v := 0) dX11_keep_20 (by decide) ?_
  refine aw_istore_n (lv2 := [(3, _), (0, _), (1, _), (2, _)]) dX11_keep_21 (by decide) rfl ?_
  exact aw_lv _ (List.forall_mem_cons.mpr ⟨rfl, (List.forall_mem_cons.mpr ⟨rfl, (List.forall_mem_cons.mpr ⟨rfl, (List.forall_mem_cons.mpr ⟨rfl, fun _ h => absurd h List.not_mem_nil⟩)⟩)⟩)⟩) (lp_ind (Q_X11_keep_22 mw mr ms mt mu gt sp ta li sr co hb n) (fun _ _ _ _ _ _ _ res hq hF => (hF hq.symm).elim) (fun k hk => b_X11_keep_22 mw mr ms mt mu gt sp ta li sr co hb n   k hk) FU a1 a2 (0 : Int32) mo dd (upd wi (Int32.toNatClampNeg a2) (mr_gw mr)) (upd hi (Int32.toNatClampNeg a2) (mr_gh mr)) _ hE hF)
def P_X11_place (mw : MW) (mr : MR) (ms : Nat) (mt : A) (mu : A) (dd : A) (wi : A) (hi : A) (gt : A) (sp : A) (ta : A) (li : A) (sr : A) (co : A) (hb : aH) (n : Nat) (res : Out MO Int32) : Option Value → aH → Nat → Prop := fun r1 h2 n2 => ∃ (a : Int32) (s : MO), res = fok a s ∧ r1 = some (.int a) ∧ h2 = HM s mw mr ms mt mu dd wi hi gt sp ta li sr co hb ∧ n = n2
def F_X11_place (mo : MO) : Out MO Int32 := fok ((mo_fp mo) : Int32) ((mo_taped mo), 0, (mo_tf mo), (mo_t1 mo), (mo_t2 mo), (mo_t3 mo), (mo_fp mo))
set_option maxHeartbeats 1000000 in
set_option maxRecDepth 100000 in
theorem kF_X11_place (mo : MO) (mw : MW) (mr : MR) (ms : Nat) (mt : A) (mu : A) (dd : A) (wi : A) (hi : A) (gt : A) (sp : A) (ta : A) (li : A) (sr : A) (co : A) (hb : aH) (n : Nat)   (hF : F_X11_place mo ≠ fno) : AM mX11_place 1 [.ref 31] (HM mo mw mr ms mt mu dd wi hi gt sp ta li sr co hb) n 0 0 0 0 (P_X11_place mw mr ms mt mu dd wi hi gt sp ta li sr co hb n (F_X11_place mo)) (fun _ _ _ => False) := by
  generalize hE : F_X11_place mo = res at hF ⊢
  refine aw_of (by decide +kernel) rfl (Nat.le_of_ble_eq_true rfl) ?_
  unfold F_X11_place at hE
  refine aw_aload_n dX11_place_0 rfl ?_
  refine aw_iconst (v := 0) dX11_place_1 (by decide) ?_
  refine aw_putf dX11_place_2 ptX11_61_10 at_mod (Nat.le_of_ble_eq_true rfl) ⟨rfl, rfl⟩ ?_
  refine aw_eqh (h2 := HM ((mo_taped mo), 0, (mo_tf mo), (mo_t1 mo), (mo_t2 mo), (mo_t3 mo), (mo_fp mo)) mw mr ms mt mu dd wi hi gt sp ta li sr co hb) up_mod ?_
  refine aw_aload_n dX11_place_5 rfl ?_
  refine aw_getf (v := .int (mo_fp mo)) dX11_place_6 flX11_43_10 at_mod rfl ?_
  exact aw_iret dX11_place_9 rfl (Nat.zero_le _) (Nat.zero_le _) (Nat.zero_le _) (Nat.zero_le _) ⟨_, _, hE.symm, rfl, rfl, rfl⟩
def P_X11_told (mw : MW) (mr : MR) (ms : Nat) (mt : A) (mu : A) (dd : A) (wi : A) (hi : A) (gt : A) (sp : A) (ta : A) (li : A) (sr : A) (co : A) (hb : aH) (n : Nat) (res : Out MO Int32) : Option Value → aH → Nat → Prop := fun r1 h2 n2 => ∃ (a : Int32) (s : MO), res = fok a s ∧ r1 = some (.int a) ∧ h2 = HM s mw mr ms mt mu dd wi hi gt sp ta li sr co hb ∧ n = n2
def F_X11_told (a1 : Int32) (mo : MO) : Out MO Int32 := if a1 = 0 then (fok ((mo_tf mo) : Int32) ((mo_taped mo), 0, (mo_tf mo), (mo_t1 mo), (mo_t2 mo), (mo_t3 mo), (mo_fp mo))) else (if a1 = 1 then (fok ((mo_t1 mo) : Int32) ((mo_taped mo), 0, (mo_tf mo), (mo_t1 mo), (mo_t2 mo), (mo_t3 mo), (mo_fp mo))) else (if a1 = 2 then (fok ((mo_t2 mo) : Int32) ((mo_taped mo), 0, (mo_tf mo), (mo_t1 mo), (mo_t2 mo), (mo_t3 mo), (mo_fp mo))) else (if a1 = 3 then (fok ((mo_t3 mo) : Int32) ((mo_taped mo), 0, (mo_tf mo), (mo_t1 mo), (mo_t2 mo), (mo_t3 mo), (mo_fp mo))) else (fok ((-1) : Int32) ((mo_taped mo), 0, (mo_tf mo), (mo_t1 mo), (mo_t2 mo), (mo_t3 mo), (mo_fp mo))))))
set_option maxHeartbeats 1000000 in
set_option maxRecDepth 100000 in
theorem kF_X11_told (mo : MO) (mw : MW) (mr : MR) (ms : Nat) (mt : A) (mu : A) (dd : A) (wi : A) (hi : A) (gt : A) (sp : A) (ta : A) (li : A) (sr : A) (co : A) (hb : aH) (n : Nat)  (a1 : Int32) (hF : F_X11_told a1 mo ≠ fno) : AM mX11_told 1 [.ref 31, .int a1] (HM mo mw mr ms mt mu dd wi hi gt sp ta li sr co hb) n 0 0 0 0 (P_X11_told mw mr ms mt mu dd wi hi gt sp ta li sr co hb n (F_X11_told a1 mo)) (fun _ _ _ => False) := by
  generalize hE : F_X11_told a1 mo = res at hF ⊢
  refine aw_of (by decide +kernel) rfl (Nat.le_of_ble_eq_true rfl) ?_
  unfold F_X11_told at hE
  refine aw_aload_n dX11_told_0 rfl ?_
  refine aw_iconst (v := 0) dX11_told_1 (by decide) ?_
  refine aw_putf dX11_told_2 ptX11_61_10 at_mod (Nat.le_of_ble_eq_true rfl) ⟨rfl, rfl⟩ ?_
  refine aw_eqh (h2 := HM ((mo_taped mo), 0, (mo_tf mo), (mo_t1 mo), (mo_t2 mo), (mo_t3 mo), (mo_fp mo)) mw mr ms mt mu dd wi hi gt sp ta li sr co hb) up_mod ?_
  refine aw_iload_n dX11_told_5 rfl ?_
  refine aw_if_ne (tgt := 16) dX11_told_6 (by decide) (fun c6 => ?_) (fun c6 => ?_)
  · replace hE := fif hE c6
    refine aw_iload_n dX11_told_16 rfl ?_
    refine aw_iconst (v := 1) dX11_told_17 (by decide) ?_
    refine aw_icmp_ne (tgt := 28) dX11_told_18 (by decide) (fun c18 => ?_) (fun c18 => ?_)
    · replace hE := fif hE c18
      refine aw_iload_n dX11_told_28 rfl ?_
      refine aw_iconst (v := 2) dX11_told_29 (by decide) ?_
      refine aw_icmp_ne (tgt := 40) dX11_told_30 (by decide) (fun c30 => ?_) (fun c30 => ?_)
      · replace hE := fif hE c30
        refine aw_iload_n dX11_told_40 rfl ?_
        refine aw_iconst (v := 3) dX11_told_41 (by decide) ?_
        refine aw_icmp_ne (tgt := 52) dX11_told_42 (by decide) (fun c42 => ?_) (fun c42 => ?_)
        · replace hE := fif hE c42
          refine aw_iconst (v := (-1)) dX11_told_52 (by decide) ?_
          exact aw_iret dX11_told_53 rfl (Nat.zero_le _) (Nat.zero_le _) (Nat.zero_le _) (Nat.zero_le _) ⟨_, _, hE.symm, rfl, rfl, rfl⟩
        · replace hE := fit hE c42
          refine aw_aload_n dX11_told_45 rfl ?_
          refine aw_getf (v := .int (mo_t3 mo)) dX11_told_46 flX11_40_10 at_mod rfl ?_
          refine aw_goto (tgt := 53) dX11_told_49 (by decide) ?_
          exact aw_iret dX11_told_53 rfl (Nat.zero_le _) (Nat.zero_le _) (Nat.zero_le _) (Nat.zero_le _) ⟨_, _, hE.symm, rfl, rfl, rfl⟩
      · replace hE := fit hE c30
        refine aw_aload_n dX11_told_33 rfl ?_
        refine aw_getf (v := .int (mo_t2 mo)) dX11_told_34 flX11_37_10 at_mod rfl ?_
        refine aw_goto (tgt := 53) dX11_told_37 (by decide) ?_
        exact aw_iret dX11_told_53 rfl (Nat.zero_le _) (Nat.zero_le _) (Nat.zero_le _) (Nat.zero_le _) ⟨_, _, hE.symm, rfl, rfl, rfl⟩
    · replace hE := fit hE c18
      refine aw_aload_n dX11_told_21 rfl ?_
      refine aw_getf (v := .int (mo_t1 mo)) dX11_told_22 flX11_34_10 at_mod rfl ?_
      refine aw_goto (tgt := 53) dX11_told_25 (by decide) ?_
      exact aw_iret dX11_told_53 rfl (Nat.zero_le _) (Nat.zero_le _) (Nat.zero_le _) (Nat.zero_le _) ⟨_, _, hE.symm, rfl, rfl, rfl⟩
  · replace hE := fit hE c6
    refine aw_aload_n dX11_told_9 rfl ?_
    refine aw_getf (v := .int (mo_tf mo)) dX11_told_10 flX11_30_10 at_mod rfl ?_
    refine aw_goto (tgt := 53) dX11_told_13 (by decide) ?_
    exact aw_iret dX11_told_53 rfl (Nat.zero_le _) (Nat.zero_le _) (Nat.zero_le _) (Nat.zero_le _) ⟨_, _, hE.symm, rfl, rfl, rfl⟩
def P_X11_many (mo : MO) (mw : MW) (mr : MR) (ms : Nat) (mt : A) (mu : A) (dd : A) (wi : A) (hi : A) (gt : A) (sp : A) (ta : A) (li : A) (sr : A) (co : A) (hb : aH) (n : Nat) (res : Out Unit Int32) : Option Value → aH → Nat → Prop := fun r1 h2 n2 => ∃ (a : Int32) (s : Unit), res = fok a s ∧ r1 = some (.int a) ∧ h2 = HM mo mw mr ms mt mu dd wi hi gt sp ta li sr co hb ∧ n = n2
def F_X11_many (a1 : Int32) (wi : A) (hi : A) : Out Unit Int32 := if inb a1 4 then (if inb a1 4 then (fok (((wi (Int32.toNatClampNeg a1)) * (hi (Int32.toNatClampNeg a1))) : Int32) ()) else fno) else fno
set_option maxHeartbeats 1000000 in
set_option maxRecDepth 100000 in
theorem kF_X11_many (mo : MO) (mw : MW) (mr : MR) (ms : Nat) (mt : A) (mu : A) (dd : A) (wi : A) (hi : A) (gt : A) (sp : A) (ta : A) (li : A) (sr : A) (co : A) (hb : aH) (n : Nat)  (a1 : Int32) (hF : F_X11_many a1 wi hi ≠ fno) : AM mX11_many 1 [.ref 31, .int a1] (HM mo mw mr ms mt mu dd wi hi gt sp ta li sr co hb) n 0 0 0 0 (P_X11_many mo mw mr ms mt mu dd wi hi gt sp ta li sr co hb n (F_X11_many a1 wi hi)) (fun _ _ _ => False) := by
  generalize hE : F_X11_many a1 wi hi = res at hF ⊢
  refine aw_of (by decide +kernel) rfl (Nat.le_of_ble_eq_true rfl) ?_
  unfold F_X11_many at hE
  refine aw_aload_n dX11_many_0 rfl ?_
  refine aw_getf (v := .ref 35) dX11_many_1 flX11_21_10 at_mod rfl ?_
  refine aw_iload_n dX11_many_4 rfl ?_
  obtain ⟨g5, hE⟩ := fgd hE hF
  refine aw_iald (f := wi) dX11_many_5 at_mwide (vp_in_iff.mpr g5) ?_
  refine aw_aload_n dX11_many_6 rfl ?_
  refine aw_getf (v := .ref 36) dX11_many_7 flX11_24_10 at_mod rfl ?_
  refine aw_iload_n dX11_many_10 rfl ?_
  obtain ⟨g11, hE⟩ := fgd hE hF
  refine aw_iald (f := hi) dX11_many_11 at_mhigh (vp_in_iff.mpr g11) ?_
  refine aw_imul dX11_many_12 ?_
  exact aw_iret dX11_many_13 rfl (Nat.zero_le _) (Nat.zero_le _) (Nat.zero_le _) (Nat.zero_le _) ⟨_, _, hE.symm, rfl, rfl, rfl⟩
