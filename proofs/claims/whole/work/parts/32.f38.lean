def P_X11_readPlanes (mo : MO) (mw : MW) (ms : Nat) (mt : A) (mu : A) (dd : A) (wi : A) (hi : A) (sp : A) (sr : A) (co : A) (hb : aH) (n : Nat) (res : Out (MR × A × A × A) Int32) : Option Value → aH → Nat → Prop := fun r1 h2 n2 => ∃ (a : Int32) (s : (MR × A × A × A)), res = fok a s ∧ r1 = some (.int a) ∧ h2 = HM mo mw s.1 ms mt mu dd wi hi s.2.1 sp s.2.2.1 s.2.2.2 sr co hb ∧ n = n2
abbrev Q_X11_readPlanes_37 (mo : MO) (mw : MW) (ms : Nat) (mt : A) (mu : A) (dd : A) (wi : A) (hi : A) (sp : A) (sr : A) (co : A) (hb : aH) (n : Nat) (k : MR → A → A → A → Out (MR × A × A × A) Int32) : Prop := ∀ (mr : MR) (gt : A) (ta : A) (li : A) (res : Out (MR × A × A × A) Int32), k mr gt ta li = res → res ≠ fno → AW (fun _ _ => True) mX11_readPlanes (rmD 4 0 0) 0 0 (P_X11_readPlanes mo mw ms mt mu dd wi hi sp sr co hb n res) (fun _ _ _ => False) 0 0 37 [(0, .ref 31)] [] (HM mo mw mr ms mt mu dd wi hi gt sp ta li sr co hb) n
abbrev Q_X11_readPlanes_103 (mo : MO) (mw : MW) (ms : Nat) (mt : A) (mu : A) (dd : A) (wi : A) (hi : A) (sp : A) (sr : A) (co : A) (hb : aH) (n : Nat) (k : Int32 → Int32 → MR → A → A → A → Out (MR × A × A × A) Int32) : Prop := ∀ (v1 : Int32) (v2 : Int32) (mr : MR) (gt : A) (ta : A) (li : A) (res : Out (MR × A × A × A) Int32), k v1 v2 mr gt ta li = res → res ≠ fno → AW (fun _ _ => True) mX11_readPlanes (rmD 4 0 0) 0 0 (P_X11_readPlanes mo mw ms mt mu dd wi hi sp sr co hb n res) (fun _ _ _ => False) 0 0 103 [(0, .ref 31), (1, .int v1), (2, .int v2)] [] (HM mo mw mr ms mt mu dd wi hi gt sp ta li sr co hb) n
abbrev Q_X11_readPlanes_108 (mo : MO) (mw : MW) (ms : Nat) (mt : A) (mu : A) (dd : A) (wi : A) (hi : A) (sp : A) (sr : A) (co : A) (hb : aH) (n : Nat) (k : Int32 → Int32 → MR → A → A → A → Out (MR × A × A × A) Int32) : Prop := ∀ (v1 : Int32) (v2 : Int32) (mr : MR) (gt : A) (ta : A) (li : A) (res : Out (MR × A × A × A) Int32), k v1 v2 mr gt ta li = res → res ≠ fno → AW (fun _ _ => True) mX11_readPlanes (rmD 4 0 0) 0 0 (P_X11_readPlanes mo mw ms mt mu dd wi hi sp sr co hb n res) (fun _ _ _ => False) 0 0 108 [(0, .ref 31), (1, .int v1), (2, .int v2)] [] (HM mo mw mr ms mt mu dd wi hi gt sp ta li sr co hb) n
abbrev Q_X11_readPlanes_251 (mo : MO) (mw : MW) (ms : Nat) (mt : A) (mu : A) (dd : A) (wi : A) (hi : A) (sp : A) (sr : A) (co : A) (hb : aH) (n : Nat) (k : Int32 → Int32 → MR → A → A → A → Out (MR × A × A × A) Int32) : Prop := ∀ (v1 : Int32) (v2 : Int32) (mr : MR) (gt : A) (ta : A) (li : A) (res : Out (MR × A × A × A) Int32), k v1 v2 mr gt ta li = res → res ≠ fno → AW (fun _ _ => True) mX11_readPlanes (rmD 4 0 0) 0 0 (P_X11_readPlanes mo mw ms mt mu dd wi hi sp sr co hb n res) (fun _ _ _ => False) 0 0 251 [(0, .ref 31), (1, .int v1), (2, .int v2)] [] (HM mo mw mr ms mt mu dd wi hi gt sp ta li sr co hb) n
abbrev Q_X11_readPlanes_297 (mo : MO) (mw : MW) (ms : Nat) (mt : A) (mu : A) (dd : A) (wi : A) (hi : A) (sp : A) (sr : A) (co : A) (hb : aH) (n : Nat) (k : Int32 → Int32 → Int32 → MR → A → A → A → Out (MR × A × A × A) Int32) : Prop := ∀ (v1 : Int32) (v2 : Int32) (v7 : Int32) (mr : MR) (gt : A) (ta : A) (li : A) (res : Out (MR × A × A × A) Int32), k v1 v2 v7 mr gt ta li = res → res ≠ fno → AW (fun _ _ => True) mX11_readPlanes (rmD 4 0 0) 0 0 (P_X11_readPlanes mo mw ms mt mu dd wi hi sp sr co hb n res) (fun _ _ _ => False) 0 0 297 [(0, .ref 31), (1, .int v1), (2, .int v2), (7, .int v7)] [] (HM mo mw mr ms mt mu dd wi hi gt sp ta li sr co hb) n
abbrev Q_X11_readPlanes_443 (mo : MO) (mw : MW) (ms : Nat) (mt : A) (mu : A) (dd : A) (wi : A) (hi : A) (sp : A) (sr : A) (co : A) (hb : aH) (n : Nat) (k : Int32 → Int32 → Int32 → MR → A → A → A → Out (MR × A × A × A) Int32) : Prop := ∀ (v1 : Int32) (v2 : Int32) (v7 : Int32) (mr : MR) (gt : A) (ta : A) (li : A) (res : Out (MR × A × A × A) Int32), k v1 v2 v7 mr gt ta li = res → res ≠ fno → AW (fun _ _ => True) mX11_readPlanes (rmD 4 0 0) 0 0 (P_X11_readPlanes mo mw ms mt mu dd wi hi sp sr co hb n res) (fun _ _ _ => False) 0 0 443 [(0, .ref 31), (1, .int v1), (2, .int v2), (7, .int v7)] [] (HM mo mw mr ms mt mu dd wi hi gt sp ta li sr co hb) n
abbrev Q_X11_readPlanes_448 (mo : MO) (mw : MW) (ms : Nat) (mt : A) (mu : A) (dd : A) (wi : A) (hi : A) (sp : A) (sr : A) (co : A) (hb : aH) (n : Nat) (k : MR → A → A → A → Out (MR × A × A × A) Int32) : Prop := ∀ (mr : MR) (gt : A) (ta : A) (li : A) (res : Out (MR × A × A × A) Int32), k mr gt ta li = res → res ≠ fno → AW (fun _ _ => True) mX11_readPlanes (rmD 4 0 0) 0 0 (P_X11_readPlanes mo mw ms mt mu dd wi hi sp sr co hb n res) (fun _ _ _ => False) 0 0 448 [(0, .ref 31)] [] (HM mo mw mr ms mt mu dd wi hi gt sp ta li sr co hb) n
abbrev Q_X11_readPlanes_456 (mo : MO) (mw : MW) (ms : Nat) (mt : A) (mu : A) (dd : A) (wi : A) (hi : A) (sp : A) (sr : A) (co : A) (hb : aH) (n : Nat) (k : Int32 → Int32 → MR → A → A → A → Out (MR × A × A × A) Int32) : Prop := ∀ (v2 : Int32) (v7 : Int32) (mr : MR) (gt : A) (ta : A) (li : A) (res : Out (MR × A × A × A) Int32), k v2 v7 mr gt ta li = res → res ≠ fno → AW (fun _ _ => True) mX11_readPlanes (rmD 4 0 0) 0 0 (P_X11_readPlanes mo mw ms mt mu dd wi hi sp sr co hb n res) (fun _ _ _ => False) 0 0 456 [(0, .ref 31), (2, .int v2), (7, .int v7)] [] (HM mo mw mr ms mt mu dd wi hi gt sp ta li sr co hb) n
abbrev Q_X11_readPlanes_511 (mo : MO) (mw : MW) (ms : Nat) (mt : A) (mu : A) (dd : A) (wi : A) (hi : A) (sp : A) (sr : A) (co : A) (hb : aH) (n : Nat) (k : MR → A → A → A → Out (MR × A × A × A) Int32) : Prop := ∀ (mr : MR) (gt : A) (ta : A) (li : A) (res : Out (MR × A × A × A) Int32), k mr gt ta li = res → res ≠ fno → AW (fun _ _ => True) mX11_readPlanes (rmD 4 0 0) 0 0 (P_X11_readPlanes mo mw ms mt mu dd wi hi sp sr co hb n res) (fun _ _ _ => False) 0 0 511 [(0, .ref 31)] [] (HM mo mw mr ms mt mu dd wi hi gt sp ta li sr co hb) n
abbrev Q_X11_readPlanes_546 (mo : MO) (mw : MW) (ms : Nat) (mt : A) (mu : A) (dd : A) (wi : A) (hi : A) (sp : A) (sr : A) (co : A) (hb : aH) (n : Nat) (k : Int32 → Int32 → Int32 → Int32 → Int32 → MR → A → A → A → Out (MR × A × A × A) Int32) : Prop := ∀ (v2 : Int32) (v7 : Int32) (v8 : Int32) (v9 : Int32) (v10 : Int32) (mr : MR) (gt : A) (ta : A) (li : A) (res : Out (MR × A × A × A) Int32), k v2 v7 v8 v9 v10 mr gt ta li = res → res ≠ fno → AW (fun _ _ => True) mX11_readPlanes (rmD 4 0 0) 0 0 (P_X11_readPlanes mo mw ms mt mu dd wi hi sp sr co hb n res) (fun _ _ _ => False) 0 0 546 [(0, .ref 31), (2, .int v2), (7, .int v7), (8, .int v8), (9, .int v9), (10, .int v10)] [] (HM mo mw mr ms mt mu dd wi hi gt sp ta li sr co hb) n
abbrev Q_X11_readPlanes_610 (mo : MO) (mw : MW) (ms : Nat) (mt : A) (mu : A) (dd : A) (wi : A) (hi : A) (sp : A) (sr : A) (co : A) (hb : aH) (n : Nat) (k : MR → A → A → A → Out (MR × A × A × A) Int32) : Prop := ∀ (mr : MR) (gt : A) (ta : A) (li : A) (res : Out (MR × A × A × A) Int32), k mr gt ta li = res → res ≠ fno → AW (fun _ _ => True) mX11_readPlanes (rmD 4 0 0) 0 0 (P_X11_readPlanes mo mw ms mt mu dd wi hi sp sr co hb n res) (fun _ _ _ => False) 0 0 610 [] [] (HM mo mw mr ms mt mu dd wi hi gt sp ta li sr co hb) n
abbrev Q_X11_readPlanes_615 (mo : MO) (mw : MW) (ms : Nat) (mt : A) (mu : A) (dd : A) (wi : A) (hi : A) (sp : A) (sr : A) (co : A) (hb : aH) (n : Nat) (k : Int32 → Int32 → Int32 → Int32 → MR → A → A → A → Out (MR × A × A × A) Int32) : Prop := ∀ (v2 : Int32) (v7 : Int32) (v8 : Int32) (v10 : Int32) (mr : MR) (gt : A) (ta : A) (li : A) (res : Out (MR × A × A × A) Int32), k v2 v7 v8 v10 mr gt ta li = res → res ≠ fno → AW (fun _ _ => True) mX11_readPlanes (rmD 4 0 0) 0 0 (P_X11_readPlanes mo mw ms mt mu dd wi hi sp sr co hb n res) (fun _ _ _ => False) 0 0 615 [(0, .ref 31), (2, .int v2), (7, .int v7), (8, .int v8), (10, .int v10)] [] (HM mo mw mr ms mt mu dd wi hi gt sp ta li sr co hb) n
abbrev Q_X11_readPlanes_698 (mo : MO) (mw : MW) (ms : Nat) (mt : A) (mu : A) (dd : A) (wi : A) (hi : A) (sp : A) (sr : A) (co : A) (hb : aH) (n : Nat) (k : Int32 → Int32 → Int32 → MR → A → A → A → Out (MR × A × A × A) Int32) : Prop := ∀ (v2 : Int32) (v7 : Int32) (v8 : Int32) (mr : MR) (gt : A) (ta : A) (li : A) (res : Out (MR × A × A × A) Int32), k v2 v7 v8 mr gt ta li = res → res ≠ fno → AW (fun _ _ => True) mX11_readPlanes (rmD 4 0 0) 0 0 (P_X11_readPlanes mo mw ms mt mu dd wi hi sp sr co hb n res) (fun _ _ _ => False) 0 0 698 [(0, .ref 31), (2, .int v2), (7, .int v7), (8, .int v8)] [] (HM mo mw mr ms mt mu dd wi hi gt sp ta li sr co hb) n
def F_X11_readPlanes_698 (sb : A)  (v2 : Int32) (v7 : Int32) (v8 : Int32) (mr : MR) (gt : A) (ta : A) (li : A) : Out (MR × A × A × A) Int32 := fon (F_X11_closes ((mr_size mr), (mr_pos mr), (mr_kind mr), (mr_whr mr), (mr_gw mr), (mr_gh mr), v2, v7, v8)) (fun z716 s716 => if isB z716 then (fok (z716 : Int32) (s716, gt, ta, li)) else fno) (fun _ _ => fno)
set_option maxHeartbeats 1000000 in
set_option maxRecDepth 100000 in
theorem b_X11_readPlanes_698 (mo : MO) (mw : MW) (ms : Nat) (mt : A) (mu : A) (dd : A) (wi : A) (hi : A) (sp : A) (sr : A) (co : A) (hb : aH) (n : Nat) (hms : isMS ms)  : Q_X11_readPlanes_698 mo mw ms mt mu dd wi hi sp sr co hb n (F_X11_readPlanes_698 (srcB ms mt mu)) := by
  intro v2 v7 v8 mr gt ta li res hE hF
  unfold F_X11_readPlanes_698 at hE
  refine aw_aload_n dX11_readPlanes_698 rfl ?_
  refine aw_iload_n dX11_readPlanes_699 rfl ?_
  refine aw_putf dX11_readPlanes_700 ptX11_130_10 at_mod (Nat.le_of_ble_eq_true rfl) ⟨rfl, rfl⟩ ?_
  refine aw_eqh (h2 := HM mo mw ((mr_size mr), (mr_pos mr), (mr_kind mr), (mr_whr mr), (mr_gw mr), (mr_gh mr), v2, (mr_two mr), (mr_three mr)) ms mt mu dd wi hi gt sp ta li sr co hb) up_mod ?_
  refine aw_aload_n dX11_readPlanes_703 rfl ?_
  refine aw_iload dX11_readPlanes_704 rfl ?_
  refine aw_putf dX11_readPlanes_706 ptX11_133_10 at_mod (Nat.le_of_ble_eq_true rfl) ⟨rfl, rfl⟩ ?_
  refine aw_eqh (h2 := HM mo mw ((mr_size mr), (mr_pos mr), (mr_kind mr), (mr_whr mr), (mr_gw mr), (mr_gh mr), v2, v7, (mr_three mr)) ms mt mu dd wi hi gt sp ta li sr co hb) up_mod ?_
  refine aw_aload_n dX11_readPlanes_709 rfl ?_
  refine aw_iload dX11_readPlanes_710 rfl ?_
  refine aw_putf dX11_readPlanes_712 ptX11_136_10 at_mod (Nat.le_of_ble_eq_true rfl) ⟨rfl, rfl⟩ ?_
  refine aw_eqh (h2 := HM mo mw ((mr_size mr), (mr_pos mr), (mr_kind mr), (mr_whr mr), (mr_gw mr), (mr_gh mr), v2, v7, v8) ms mt mu dd wi hi gt sp ta li sr co hb) up_mod ?_
  refine aw_aload_n dX11_readPlanes_715 rfl ?_
  refine aw_callV dX11_readPlanes_716 at_mod cvX11_145 rfl (kF_X11_closes mo mw ((mr_size mr), (mr_pos mr), (mr_kind mr), (mr_whr mr), (mr_gw mr), (mr_gh mr), v2, v7, v8) ms mt mu dd wi hi gt sp ta li sr co hb _   (fon_ne hE hF)) rfl (Nat.le_of_ble_eq_true rfl) (by decide) (by decide) (by decide) (by decide) (fun _ _ _ hf => False.elim hf) (fun r716 h716 n716 hp716 => ?_)
  obtain ⟨z716, s716, e716, rfl, rfl, rfl⟩ := hp716
  replace hE := fon_ok e716 hE
  obtain ⟨g719, hE⟩ := fgd hE hF
  exact aw_zret dX11_readPlanes_719 rfl (narB g719) (Nat.zero_le _) (Nat.zero_le _) (Nat.zero_le _) (Nat.zero_le _) ⟨_, _, hE.symm, rfl, rfl, rfl⟩
def F_X11_readPlanes_615 (sb : A) (k615 : Int32 → Int32 → Int32 → Int32 → MR → A → A → A → Out (MR × A × A × A) Int32) (v2 : Int32) (v7 : Int32) (v8 : Int32) (v10 : Int32) (mr : MR) (gt : A) (ta : A) (li : A) : Out (MR × A × A × A) Int32 := if ((mr_gw mr) * (mr_gh mr)) ≤ v10 then (F_X11_readPlanes_698 sb v2 v7 v8 ((mr_size mr), ((mr_pos mr) + 768), (mr_kind mr), (mr_whr mr), (mr_gw mr), (mr_gh mr), (mr_one mr), (mr_two mr), (mr_three mr)) gt ta li) else (if inb v10 4096 then (fon (F_X11_b ((mr_pos mr) + (3 * (gt (Int32.toNatClampNeg v10)))) sb) (fun z654 s654 => fon (F_X11_b (((mr_pos mr) + (3 * (gt (Int32.toNatClampNeg v10)))) + 1) sb) (fun z662 s662 => fon (F_X11_b (((mr_pos mr) + (3 * (gt (Int32.toNatClampNeg v10)))) + 2) sb) (fun z670 s670 => if inb v10 4096 then (k615 v2 v7 v8 (v10 + 1) mr (upd gt (Int32.toNatClampNeg v10) (F_X11_mix z654 z662 z670 255)) ta li) else fno) (fun _ _ => fno)) (fun _ _ => fno)) (fun _ _ => fno)) else fno)
set_option maxHeartbeats 1000000 in
set_option maxRecDepth 100000 in
theorem b_X11_readPlanes_615 (mo : MO) (mw : MW) (ms : Nat) (mt : A) (mu : A) (dd : A) (wi : A) (hi : A) (sp : A) (sr : A) (co : A) (hb : aH) (n : Nat) (hms : isMS ms) (k615 : Int32 → Int32 → Int32 → Int32 → MR → A → A → A → Out (MR × A × A × A) Int32) (hk615 : Q_X11_readPlanes_615 mo mw ms mt mu dd wi hi sp sr co hb n k615) : Q_X11_readPlanes_615 mo mw ms mt mu dd wi hi sp sr co hb n (F_X11_readPlanes_615 (srcB ms mt mu) k615) := by
  intro v2 v7 v8 v10 mr gt ta li res hE hF
  unfold F_X11_readPlanes_615 at hE
  refine aw_iload dX11_readPlanes_615 rfl ?_
  refine aw_aload_n dX11_readPlanes_617 rfl ?_
  refine aw_getf (v := .int (mr_gw mr)) dX11_readPlanes_618 flX11_109_10 at_mod rfl ?_
  refine aw_aload_n dX11_readPlanes_621 rfl ?_
  refine aw_getf (v := .int (mr_gh mr)) dX11_readPlanes_622 flX11_112_10 at_mod rfl ?_
  refine aw_imul dX11_readPlanes_625 ?_
  refine aw_icmp_ge (tgt := 686) dX11_readPlanes_626 (by decide) (fun c626 => ?_) (fun c626 => ?_)
  · replace hE := fit hE c626
    refine aw_aload_n dX11_readPlanes_686 rfl ?_
    refine aw_dup dX11_readPlanes_687 rfl ?_
    refine aw_getf (v := .int (mr_pos mr)) dX11_readPlanes_688 flX11_84_10 at_mod rfl ?_
    refine aw_sipush (v := 768) dX11_readPlanes_691 (by decide) ?_
    refine aw_iadd dX11_readPlanes_694 ?_
    refine aw_putf dX11_readPlanes_695 ptX11_84_10 at_mod (Nat.le_of_ble_eq_true rfl) ⟨rfl, rfl⟩ ?_
    refine aw_eqh (h2 := HM mo mw ((mr_size mr), ((mr_pos mr) + 768), (mr_kind mr), (mr_whr mr), (mr_gw mr), (mr_gh mr), (mr_one mr), (mr_two mr), (mr_three mr)) ms mt mu dd wi hi gt sp ta li sr co hb) up_mod ?_
    exact aw_lv _ (List.forall_mem_cons.mpr ⟨rfl, (List.forall_mem_cons.mpr ⟨rfl, (List.forall_mem_cons.mpr ⟨rfl, (List.forall_mem_cons.mpr ⟨rfl, fun _ h => absurd h List.not_mem_nil⟩)⟩)⟩)⟩) (b_X11_readPlanes_698 mo mw ms mt mu dd wi hi sp sr co hb n hms  v2 v7 v8 ((mr_size mr), ((mr_pos mr) + 768), (mr_kind mr), (mr_whr mr), (mr_gw mr), (mr_gh mr), (mr_one mr), (mr_two mr), (mr_three mr)) gt ta li _ hE hF)
  · replace hE := fif hE c626
    refine aw_aload_n dX11_readPlanes_629 rfl ?_
    refine aw_getf (v := .int (mr_pos mr)) dX11_readPlanes_630 flX11_84_10 at_mod rfl ?_
    refine aw_iconst (v := 3) dX11_readPlanes_633 (by decide) ?_
    refine aw_aload_n dX11_readPlanes_634 rfl ?_
    refine aw_getf (v := .ref 37) dX11_readPlanes_635 flX11_27_10 at_mod rfl ?_
    refine aw_iload dX11_readPlanes_638 rfl ?_
    obtain ⟨g640, hE⟩ := fgd hE hF
    refine aw_iald (f := gt) dX11_readPlanes_640 at_mgot (vp_in_iff.mpr g640) ?_
    refine aw_imul dX11_readPlanes_641 ?_
    refine aw_iadd dX11_readPlanes_642 ?_
    refine aw_istore (lv2 := [(11, _), (0, _), (2, _), (7, _), (8, _), (10, _)]) dX11_readPlanes_643 (by decide) rfl ?_
    refine aw_aload_n dX11_readPlanes_645 rfl ?_
    refine aw_getf (v := .ref 37) dX11_readPlanes_646 flX11_27_10 at_mod rfl ?_
    refine aw_iload dX11_readPlanes_649 rfl ?_
    refine aw_aload_n dX11_readPlanes_651 rfl ?_
    refine aw_iload dX11_readPlanes_652 rfl ?_
    refine aw_callV dX11_readPlanes_654 at_mod cvX11_99 rfl (kF_X11_b mo mw mr ms mt mu dd wi hi gt sp ta li sr co hb _ hms ((mr_pos mr) + (3 * (gt (Int32.toNatClampNeg v10)))) (fon_ne hE hF)) rfl (Nat.le_of_ble_eq_true rfl) (by decide) (by decide) (by decide) (by decide) (fun _ _ _ hf => False.elim hf) (fun r654 h654 n654 hp654 => ?_)
    obtain ⟨z654, s654, e654, rfl, rfl, rfl⟩ := hp654
    replace hE := fon_ok e654 hE
    refine aw_aload_n dX11_readPlanes_657 rfl ?_
    refine aw_iload dX11_readPlanes_658 rfl ?_
    refine aw_iconst (v := 1) dX11_readPlanes_660 (by decide) ?_
    refine aw_iadd dX11_readPlanes_661 ?_
    refine aw_callV dX11_readPlanes_662 at_mod cvX11_99 rfl (kF_X11_b mo mw mr ms mt mu dd wi hi gt sp ta li sr co hb _ hms (((mr_pos mr) + (3 * (gt (Int32.toNatClampNeg v10)))) + 1) (fon_ne hE hF)) rfl (Nat.le_of_ble_eq_true rfl) (by decide) (by decide) (by decide) (by decide) (fun _ _ _ hf => False.elim hf) (fun r662 h662 n662 hp662 => ?_)
    obtain ⟨z662, s662, e662, rfl, rfl, rfl⟩ := hp662
    replace hE := fon_ok e662 hE
    refine aw_aload_n dX11_readPlanes_665 rfl ?_
    refine aw_iload dX11_readPlanes_666 rfl ?_
    refine aw_iconst (v := 2) dX11_readPlanes_668 (by decide) ?_
    refine aw_iadd dX11_readPlanes_669 ?_
    refine aw_callV dX11_readPlanes_670 at_mod cvX11_99 rfl (kF_X11_b mo mw mr ms mt mu dd wi hi gt sp ta li sr co hb _ hms (((mr_pos mr) + (3 * (gt (Int32.toNatClampNeg v10)))) + 2) (fon_ne hE hF)) rfl (Nat.le_of_ble_eq_true rfl) (by decide) (by decide) (by decide) (by decide) (fun _ _ _ hf => False.elim hf) (fun r670 h670 n670 hp670 => ?_)
    obtain ⟨z670, s670, e670, rfl, rfl, rfl⟩ := hp670
    replace hE := fon_ok e670 hE
    refine aw_sipush (v := 255) dX11_readPlanes_673 (by decide) ?_
    refine aw_callS dX11_readPlanes_676  csX11_115 rfl (kF_X11_mix _ _ z654 z662 z670 255) rfl (Nat.le_of_ble_eq_true rfl) (by decide) (by decide) (by decide) (by decide) (fun _ _ _ hf => False.elim hf) (fun r676 h676 n676 hp676 => ?_)
    obtain ⟨rfl, rfl, rfl⟩ := hp676
    obtain ⟨g679, hE⟩ := fgd hE hF
    refine aw_iast (f := gt) dX11_readPlanes_679 at_mgot (vp_in_iff.mpr g679) ?_
    refine aw_eqh (h2 := HM mo mw mr ms mt mu dd wi hi (upd gt (Int32.toNatClampNeg v10) (F_X11_mix z654 z662 z670 255)) sp ta li sr co hb) up_mgot ?_
    refine aw_iinc (v := (v10 + 1)) (lv2 := [(10, _), (11, _), (0, _), (2, _), (7, _), (8, _)]) dX11_readPlanes_680 rfl (incE (by decide)) (by decide) rfl ?_
    refine aw_goto (tgt := 615) dX11_readPlanes_683 (by decide) ?_
    exact aw_lv _ (List.forall_mem_cons.mpr ⟨rfl, (List.forall_mem_cons.mpr ⟨rfl, (List.forall_mem_cons.mpr ⟨rfl, (List.forall_mem_cons.mpr ⟨rfl, (List.forall_mem_cons.mpr ⟨rfl, fun _ h => absurd h List.not_mem_nil⟩)⟩)⟩)⟩)⟩) (hk615 v2 v7 v8 (v10 + 1) mr (upd gt (Int32.toNatClampNeg v10) (F_X11_mix z654 z662 z670 255)) ta li _ hE hF)
def F_X11_readPlanes_610 (sb : A)  (mr : MR) (gt : A) (ta : A) (li : A) : Out (MR × A × A × A) Int32 := fok (0 : Int32) (mr, gt, ta, li)
set_option maxHeartbeats 1000000 in
set_option maxRecDepth 100000 in
theorem b_X11_readPlanes_610 (mo : MO) (mw : MW) (ms : Nat) (mt : A) (mu : A) (dd : A) (wi : A) (hi : A) (sp : A) (sr : A) (co : A) (hb : aH) (n : Nat) (hms : isMS ms)  : Q_X11_readPlanes_610 mo mw ms mt mu dd wi hi sp sr co hb n (F_X11_readPlanes_610 (srcB ms mt mu)) := by
  intro mr gt ta li res hE hF
  unfold F_X11_readPlanes_610 at hE
  refine aw_iconst (v := 0) dX11_readPlanes_610 (by decide) ?_
  exact aw_zret dX11_readPlanes_611 rfl (narB (by decide)) (Nat.zero_le _) (Nat.zero_le _) (Nat.zero_le _) (Nat.zero_le _) ⟨_, _, hE.symm, rfl, rfl, rfl⟩
def F_X11_readPlanes_546 (sb : A) (k546 : Int32 → Int32 → Int32 → Int32 → Int32 → MR → A → A → A → Out (MR × A × A × A) Int32) (v2 : Int32) (v7 : Int32) (v8 : Int32) (v9 : Int32) (v10 : Int32) (mr : MR) (gt : A) (ta : A) (li : A) : Out (MR × A × A × A) Int32 := if (mr_gh mr) ≤ v10 then (if v2 = 8 then (if v7 = 1 then (fon (F_X11_sign 12 sb mr) (fun z594 s594 => if z594 = 0 then (F_X11_readPlanes_610 sb s594 gt ta li) else (fon (F_X11_want 768 s594) (fun z604 s604 => if z604 = 0 then (F_X11_readPlanes_610 sb s604 gt ta li) else (lp (fun _ _ _ _ _ _ _ _ => fno) (F_X11_readPlanes_615 sb) FU v2 v7 v8 (0 : Int32) s604 gt ta li)) (fun _ _ => fno))) (fun _ _ => fno)) else (F_X11_readPlanes_698 sb v2 v7 v8 mr gt ta li)) else (F_X11_readPlanes_698 sb v2 v7 v8 mr gt ta li)) else (fon (F_X11_readLine v10 v2 v7 v8 v9 sb mr gt ta li) (fun z565 s565 => if z565 = 0 then (fok (0 : Int32) (s565.1, s565.2.1, ta, s565.2.2)) else (k546 v2 v7 v8 v9 (v10 + 1) s565.1 s565.2.1 ta s565.2.2)) (fun _ _ => fno))
set_option maxHeartbeats 1000000 in
set_option maxRecDepth 100000 in
theorem b_X11_readPlanes_546 (mo : MO) (mw : MW) (ms : Nat) (mt : A) (mu : A) (dd : A) (wi : A) (hi : A) (sp : A) (sr : A) (co : A) (hb : aH) (n : Nat) (hms : isMS ms) (k546 : Int32 → Int32 → Int32 → Int32 → Int32 → MR → A → A → A → Out (MR × A × A × A) Int32) (hk546 : Q_X11_readPlanes_546 mo mw ms mt mu dd wi hi sp sr co hb n k546) : Q_X11_readPlanes_546 mo mw ms mt mu dd wi hi sp sr co hb n (F_X11_readPlanes_546 (srcB ms mt mu) k546) := by
  intro v2 v7 v8 v9 v10 mr gt ta li res hE hF
  unfold F_X11_readPlanes_546 at hE
  refine aw_iload dX11_readPlanes_546 rfl ?_
  refine aw_aload_n dX11_readPlanes_548 rfl ?_
  refine aw_getf (v := .int (mr_gh mr)) dX11_readPlanes_549 flX11_112_10 at_mod rfl ?_
  refine aw_icmp_ge (tgt := 579) dX11_readPlanes_552 (by decide) (fun c552 => ?_) (fun c552 => ?_)
  · replace hE := fit hE c552
    refine aw_iload_n dX11_readPlanes_579 rfl ?_
    refine aw_bipush (v := 8) dX11_readPlanes_580 (by decide) ?_
    refine aw_icmp_ne (tgt := 698) dX11_readPlanes_582 (by decide) (fun c582 => ?_) (fun c582 => ?_)
    · replace hE := fif hE c582
      exact aw_lv _ (List.forall_mem_cons.mpr ⟨rfl, (List.forall_mem_cons.mpr ⟨rfl, (List.forall_mem_cons.mpr ⟨rfl, (List.forall_mem_cons.mpr ⟨rfl, fun _ h => absurd h List.not_mem_nil⟩)⟩)⟩)⟩) (b_X11_readPlanes_698 mo mw ms mt mu dd wi hi sp sr co hb n hms  v2 v7 v8 mr gt ta li _ hE hF)
    · replace hE := fit hE c582
      refine aw_iload dX11_readPlanes_585 rfl ?_
      refine aw_iconst (v := 1) dX11_readPlanes_587 (by decide) ?_
      refine aw_icmp_ne (tgt := 698) dX11_readPlanes_588 (by decide) (fun c588 => ?_) (fun c588 => ?_)
      · replace hE := fif hE c588
        exact aw_lv _ (List.forall_mem_cons.mpr ⟨rfl, (List.forall_mem_cons.mpr ⟨rfl, (List.forall_mem_cons.mpr ⟨rfl, (List.forall_mem_cons.mpr ⟨rfl, fun _ h => absurd h List.not_mem_nil⟩)⟩)⟩)⟩) (b_X11_readPlanes_698 mo mw ms mt mu dd wi hi sp sr co hb n hms  v2 v7 v8 mr gt ta li _ hE hF)
      · replace hE := fit hE c588
        refine aw_aload_n dX11_readPlanes_591 rfl ?_
        refine aw_bipush (v := 12) dX11_readPlanes_592 (by decide) ?_
        refine aw_callV dX11_readPlanes_594 at_mod cvX11_119 rfl (kF_X11_sign mo mw mr ms mt mu dd wi hi gt sp ta li sr co hb _ hms 12 (fon_ne hE hF)) rfl (Nat.le_of_ble_eq_true rfl) (by decide) (by decide) (by decide) (by decide) (fun _ _ _ hf => False.elim hf) (fun r594 h594 n594 hp594 => ?_)
        obtain ⟨z594, s594, e594, rfl, rfl, rfl⟩ := hp594
        replace hE := fon_ok e594 hE
        refine aw_if_eq (tgt := 610) dX11_readPlanes_597 (by decide) (fun c597 => ?_) (fun c597 => ?_)
        · replace hE := fit hE c597
          exact aw_lv _ (fun _ h => absurd h List.not_mem_nil) (b_X11_readPlanes_610 mo mw ms mt mu dd wi hi sp sr co hb n hms  s594 gt ta li _ hE hF)
        · replace hE := fif hE c597
          refine aw_aload_n dX11_readPlanes_600 rfl ?_
          refine aw_sipush (v := 768) dX11_readPlanes_601 (by decide) ?_
          refine aw_callV dX11_readPlanes_604 at_mod cvX11_103 rfl (kF_X11_want mo mw s594 ms mt mu dd wi hi gt sp ta li sr co hb _  768 (fon_ne hE hF)) rfl (Nat.le_of_ble_eq_true rfl) (by decide) (by decide) (by decide) (by decide) (fun _ _ _ hf => False.elim hf) (fun r604 h604 n604 hp604 => ?_)
          obtain ⟨z604, s604, e604, rfl, rfl, rfl⟩ := hp604
          replace hE := fon_ok e604 hE
          refine aw_if_ne (tgt := 612) dX11_readPlanes_607 (by decide) (fun c607 => ?_) (fun c607 => ?_)
          · replace hE := fif hE c607
            refine aw_iconst (v := 0) dX11_readPlanes_612 (by decide) ?_
            refine aw_istore (lv2 := [(10, _), (0, _), (2, _), (7, _), (8, _), (9, _)]) dX11_readPlanes_613 (by decide) rfl ?_
            exact aw_lv _ (List.forall_mem_cons.mpr ⟨rfl, (List.forall_mem_cons.mpr ⟨rfl, (List.forall_mem_cons.mpr ⟨rfl, (List.forall_mem_cons.mpr ⟨rfl, (List.forall_mem_cons.mpr ⟨rfl, fun _ h => absurd h List.not_mem_nil⟩)⟩)⟩)⟩)⟩) (lp_ind (Q_X11_readPlanes_615 mo mw ms mt mu dd wi hi sp sr co hb n) (fun _ _ _ _ _ _ _ _ res hq hF => (hF hq.symm).elim) (fun k hk => b_X11_readPlanes_615 mo mw ms mt mu dd wi hi sp sr co hb n hms  k hk) FU v2 v7 v8 (0 : Int32) s604 gt ta li _ hE hF)
          · replace hE := fit hE c607
            exact aw_lv _ (fun _ h => absurd h List.not_mem_nil) (b_X11_readPlanes_610 mo mw ms mt mu dd wi hi sp sr co hb n hms  s604 gt ta li _ hE hF)
  · replace hE := fif hE c552
    refine aw_aload_n dX11_readPlanes_555 rfl ?_
    refine aw_iload dX11_readPlanes_556 rfl ?_
    refine aw_iload_n dX11_readPlanes_558 rfl ?_
    refine aw_iload dX11_readPlanes_559 rfl ?_
    refine aw_iload dX11_readPlanes_561 rfl ?_
    refine aw_iload dX11_readPlanes_563 rfl ?_
    refine aw_callV dX11_readPlanes_565 at_mod cvX11_226 rfl (kF_X11_readLine mo mw mr ms mt mu dd wi hi gt sp ta li sr co hb _ hms v10 v2 v7 v8 v9 (fon_ne hE hF)) rfl (Nat.le_of_ble_eq_true rfl) (by decide) (by decide) (by decide) (by decide) (fun _ _ _ hf => False.elim hf) (fun r565 h565 n565 hp565 => ?_)
    obtain ⟨z565, s565, e565, rfl, rfl, rfl⟩ := hp565
    replace hE := fon_ok e565 hE
    refine aw_if_ne (tgt := 573) dX11_readPlanes_568 (by decide) (fun c568 => ?_) (fun c568 => ?_)
    · replace hE := fif hE c568
      refine aw_iinc (v := (v10 + 1)) (lv2 := [(10, _), (0, _), (2, _), (7, _), (8, _), (9, _)]) dX11_readPlanes_573 rfl (incE (by decide)) (by decide) rfl ?_
      refine aw_goto (tgt := 546) dX11_readPlanes_576 (by decide) ?_
      exact aw_lv _ (List.forall_mem_cons.mpr ⟨rfl, (List.forall_mem_cons.mpr ⟨rfl, (List.forall_mem_cons.mpr ⟨rfl, (List.forall_mem_cons.mpr ⟨rfl, (List.forall_mem_cons.mpr ⟨rfl, (List.forall_mem_cons.mpr ⟨rfl, fun _ h => absurd h List.not_mem_nil⟩)⟩)⟩)⟩)⟩)⟩) (hk546 v2 v7 v8 v9 (v10 + 1) s565.1 s565.2.1 ta s565.2.2 _ hE hF)
    · replace hE := fit hE c568
      refine aw_iconst (v := 0) dX11_readPlanes_571 (by decide) ?_
      exact aw_zret dX11_readPlanes_572 rfl (narB (by decide)) (Nat.zero_le _) (Nat.zero_le _) (Nat.zero_le _) (Nat.zero_le _) ⟨_, _, hE.symm, rfl, rfl, rfl⟩
def F_X11_readPlanes_511 (sb : A)  (mr : MR) (gt : A) (ta : A) (li : A) : Out (MR × A × A × A) Int32 := fon (F_X11_wrong 2 66 mr) (fun z515 s515 => if isB z515 then (fok (z515 : Int32) (s515, gt, ta, li)) else fno) (fun _ _ => fno)
set_option maxHeartbeats 1000000 in
set_option maxRecDepth 100000 in
theorem b_X11_readPlanes_511 (mo : MO) (mw : MW) (ms : Nat) (mt : A) (mu : A) (dd : A) (wi : A) (hi : A) (sp : A) (sr : A) (co : A) (hb : aH) (n : Nat) (hms : isMS ms)  : Q_X11_readPlanes_511 mo mw ms mt mu dd wi hi sp sr co hb n (F_X11_readPlanes_511 (srcB ms mt mu)) := by
  intro mr gt ta li res hE hF
  unfold F_X11_readPlanes_511 at hE
  refine aw_aload_n dX11_readPlanes_511 rfl ?_
  refine aw_iconst (v := 2) dX11_readPlanes_512 (by decide) ?_
  refine aw_bipush (v := 66) dX11_readPlanes_513 (by decide) ?_
  refine aw_callV dX11_readPlanes_515 at_mod cvX11_90 rfl (kF_X11_wrong mo mw mr ms mt mu dd wi hi gt sp ta li sr co hb _  2 66 (fon_ne hE hF)) rfl (Nat.le_of_ble_eq_true rfl) (by decide) (by decide) (by decide) (by decide) (fun _ _ _ hf => False.elim hf) (fun r515 h515 n515 hp515 => ?_)
  obtain ⟨z515, s515, e515, rfl, rfl, rfl⟩ := hp515
  replace hE := fon_ok e515 hE
  obtain ⟨g518, hE⟩ := fgd hE hF
  exact aw_zret dX11_readPlanes_518 rfl (narB g518) (Nat.zero_le _) (Nat.zero_le _) (Nat.zero_le _) (Nat.zero_le _) ⟨_, _, hE.symm, rfl, rfl, rfl⟩
def F_X11_readPlanes_456 (sb : A)  (v2 : Int32) (v7 : Int32) (mr : MR) (gt : A) (ta : A) (li : A) : Out (MR × A × A × A) Int32 := fon (F_X11_want 2 ((mr_size mr), 66, (mr_kind mr), (mr_whr mr), (mr_gw mr), (mr_gh mr), (mr_one mr), (mr_two mr), (mr_three mr))) (fun z464 s464 => if z464 = 0 then (fok (0 : Int32) (s464, gt, ta, li)) else (fon (F_X11_low 66 2 sb) (fun z476 s476 => if ((z476).toInt32 - (z476).toInt32 / 2 * 2) = 1 then (F_X11_readPlanes_511 sb s464 gt ta li) else (if ((((mr_gw s464) * v2) + 7) / 8) ≤ (z476).toInt32 then (fon (F_X11_want 60 ((mr_size s464), 68, (mr_kind s464), (mr_whr s464), (mr_gw s464), (mr_gh s464), (mr_one s464), (mr_two s464), (mr_three s464))) (fun z528 s528 => if z528 = 0 then (fok (0 : Int32) (s528, gt, ta, li)) else (lp (fun _ _ _ _ _ _ _ _ _ => fno) (F_X11_readPlanes_546 sb) FU v2 v7 ((z476).toInt32) ((((mr_gw s464) * v2) + 7) / 8) (0 : Int32) ((mr_size s528), 128, (mr_kind s528), (mr_whr s528), (mr_gw s528), (mr_gh s528), (mr_one s528), (mr_two s528), (mr_three s528)) gt ta li)) (fun _ _ => fno)) else (F_X11_readPlanes_511 sb s464 gt ta li))) (fun _ _ => fno))) (fun _ _ => fno)
set_option maxHeartbeats 1000000 in
set_option maxRecDepth 100000 in
theorem b_X11_readPlanes_456 (mo : MO) (mw : MW) (ms : Nat) (mt : A) (mu : A) (dd : A) (wi : A) (hi : A) (sp : A) (sr : A) (co : A) (hb : aH) (n : Nat) (hms : isMS ms)  : Q_X11_readPlanes_456 mo mw ms mt mu dd wi hi sp sr co hb n (F_X11_readPlanes_456 (srcB ms mt mu)) := by
  intro v2 v7 mr gt ta li res hE hF
  unfold F_X11_readPlanes_456 at hE
  refine aw_aload_n dX11_readPlanes_456 rfl ?_
  refine aw_bipush (v := 66) dX11_readPlanes_457 (by decide) ?_
  refine aw_putf dX11_readPlanes_459 ptX11_84_10 at_mod (Nat.le_of_ble_eq_true rfl) ⟨rfl, rfl⟩ ?_
  refine aw_eqh (h2 := HM mo mw ((mr_size mr), 66, (mr_kind mr), (mr_whr mr), (mr_gw mr), (mr_gh mr), (mr_one mr), (mr_two mr), (mr_three mr)) ms mt mu dd wi hi gt sp ta li sr co hb) up_mod ?_
  refine aw_aload_n dX11_readPlanes_462 rfl ?_
  refine aw_iconst (v := 2) dX11_readPlanes_463 (by decide) ?_
  refine aw_callV dX11_readPlanes_464 at_mod cvX11_103 rfl (kF_X11_want mo mw ((mr_size mr), 66, (mr_kind mr), (mr_whr mr), (mr_gw mr), (mr_gh mr), (mr_one mr), (mr_two mr), (mr_three mr)) ms mt mu dd wi hi gt sp ta li sr co hb _  2 (fon_ne hE hF)) rfl (Nat.le_of_ble_eq_true rfl) (by decide) (by decide) (by decide) (by decide) (fun _ _ _ hf => False.elim hf) (fun r464 h464 n464 hp464 => ?_)
  obtain ⟨z464, s464, e464, rfl, rfl, rfl⟩ := hp464
  replace hE := fon_ok e464 hE
  refine aw_if_ne (tgt := 472) dX11_readPlanes_467 (by decide) (fun c467 => ?_) (fun c467 => ?_)
  · replace hE := fif hE c467
    refine aw_aload_n dX11_readPlanes_472 rfl ?_
    refine aw_bipush (v := 66) dX11_readPlanes_473 (by decide) ?_
    refine aw_iconst (v := 2) dX11_readPlanes_475 (by decide) ?_
    refine aw_callV dX11_readPlanes_476 at_mod cvX11_183 rfl (kF_X11_low mo mw s464 ms mt mu dd wi hi gt sp ta li sr co hb _ hms 66 2 (fon_ne hE hF)) rfl (Nat.le_of_ble_eq_true rfl) (by decide) (by decide) (by decide) (by decide) (fun _ _ _ hf => False.elim hf) (fun r476 h476 n476 hp476 => ?_)
    obtain ⟨z476, s476, e476, rfl, rfl, rfl⟩ := hp476
    replace hE := fon_ok e476 hE
    refine aw_l2i dX11_readPlanes_479 ?_
    refine aw_istore (lv2 := [(8, _), (0, _), (2, _), (7, _)]) dX11_readPlanes_480 (by decide) rfl ?_
    refine aw_aload_n dX11_readPlanes_482 rfl ?_
    refine aw_getf (v := .int (mr_gw s464)) dX11_readPlanes_483 flX11_109_10 at_mod rfl ?_
    refine aw_iload_n dX11_readPlanes_486 rfl ?_
    refine aw_imul dX11_readPlanes_487 ?_
    refine aw_bipush (v := 7) dX11_readPlanes_488 (by decide) ?_
    refine aw_iadd dX11_readPlanes_490 ?_
    refine aw_bipush (v := 8) dX11_readPlanes_491 (by decide) ?_
    refine aw_idiv dX11_readPlanes_493 (by decide) ?_
    refine aw_istore (lv2 := [(9, _), (8, _), (0, _), (2, _), (7, _)]) dX11_readPlanes_494 (by decide) rfl ?_
    refine aw_iload dX11_readPlanes_496 rfl ?_
    refine aw_iconst (v := 2) dX11_readPlanes_498 (by decide) ?_
    refine aw_irem dX11_readPlanes_499 (by decide) ?_
    refine aw_iconst (v := 1) dX11_readPlanes_500 (by decide) ?_
    refine aw_icmp_eq (tgt := 511) dX11_readPlanes_501 (by decide) (fun c501 => ?_) (fun c501 => ?_)
    · replace hE := fit hE c501
      exact aw_lv _ (List.forall_mem_cons.mpr ⟨rfl, fun _ h => absurd h List.not_mem_nil⟩) (b_X11_readPlanes_511 mo mw ms mt mu dd wi hi sp sr co hb n hms  s464 gt ta li _ hE hF)
    · replace hE := fif hE c501
      refine aw_iload dX11_readPlanes_504 rfl ?_
      refine aw_iload dX11_readPlanes_506 rfl ?_
      refine aw_icmp_ge (tgt := 519) dX11_readPlanes_508 (by decide) (fun c508 => ?_) (fun c508 => ?_)
      · replace hE := fit hE c508
        refine aw_aload_n dX11_readPlanes_519 rfl ?_
        refine aw_bipush (v := 68) dX11_readPlanes_520 (by decide) ?_
        refine aw_putf dX11_readPlanes_522 ptX11_84_10 at_mod (Nat.le_of_ble_eq_true rfl) ⟨rfl, rfl⟩ ?_
        refine aw_eqh (h2 := HM mo mw ((mr_size s464), 68, (mr_kind s464), (mr_whr s464), (mr_gw s464), (mr_gh s464), (mr_one s464), (mr_two s464), (mr_three s464)) ms mt mu dd wi hi gt sp ta li sr co hb) up_mod ?_
        refine aw_aload_n dX11_readPlanes_525 rfl ?_
        refine aw_bipush (v := 60) dX11_readPlanes_526 (by decide) ?_
        refine aw_callV dX11_readPlanes_528 at_mod cvX11_103 rfl (kF_X11_want mo mw ((mr_size s464), 68, (mr_kind s464), (mr_whr s464), (mr_gw s464), (mr_gh s464), (mr_one s464), (mr_two s464), (mr_three s464)) ms mt mu dd wi hi gt sp ta li sr co hb _  60 (fon_ne hE hF)) rfl (Nat.le_of_ble_eq_true rfl) (by decide) (by decide) (by decide) (by decide) (fun _ _ _ hf => False.elim hf) (fun r528 h528 n528 hp528 => ?_)
        obtain ⟨z528, s528, e528, rfl, rfl, rfl⟩ := hp528
        replace hE := fon_ok e528 hE
        refine aw_if_ne (tgt := 536) dX11_readPlanes_531 (by decide) (fun c531 => ?_) (fun c531 => ?_)
        · replace hE := fif hE c531
          refine aw_aload_n dX11_readPlanes_536 rfl ?_
          refine aw_sipush (v := 128) dX11_readPlanes_537 (by decide) ?_
          refine aw_putf dX11_readPlanes_540 ptX11_84_10 at_mod (Nat.le_of_ble_eq_true rfl) ⟨rfl, rfl⟩ ?_
          refine aw_eqh (h2 := HM mo mw ((mr_size s528), 128, (mr_kind s528), (mr_whr s528), (mr_gw s528), (mr_gh s528), (mr_one s528), (mr_two s528), (mr_three s528)) ms mt mu dd wi hi gt sp ta li sr co hb) up_mod ?_
          refine aw_iconst (v := 0) dX11_readPlanes_543 (by decide) ?_
          refine aw_istore (lv2 := [(10, _), (9, _), (8, _), (0, _), (2, _), (7, _)]) dX11_readPlanes_544 (by decide) rfl ?_
          exact aw_lv _ (List.forall_mem_cons.mpr ⟨rfl, (List.forall_mem_cons.mpr ⟨rfl, (List.forall_mem_cons.mpr ⟨rfl, (List.forall_mem_cons.mpr ⟨rfl, (List.forall_mem_cons.mpr ⟨rfl, (List.forall_mem_cons.mpr ⟨rfl, fun _ h => absurd h List.not_mem_nil⟩)⟩)⟩)⟩)⟩)⟩) (lp_ind (Q_X11_readPlanes_546 mo mw ms mt mu dd wi hi sp sr co hb n) (fun _ _ _ _ _ _ _ _ _ res hq hF => (hF hq.symm).elim) (fun k hk => b_X11_readPlanes_546 mo mw ms mt mu dd wi hi sp sr co hb n hms  k hk) FU v2 v7 ((z476).toInt32) ((((mr_gw s464) * v2) + 7) / 8) (0 : Int32) ((mr_size s528), 128, (mr_kind s528), (mr_whr s528), (mr_gw s528), (mr_gh s528), (mr_one s528), (mr_two s528), (mr_three s528)) gt ta li _ hE hF)
        · replace hE := fit hE c531
          refine aw_iconst (v := 0) dX11_readPlanes_534 (by decide) ?_
          exact aw_zret dX11_readPlanes_535 rfl (narB (by decide)) (Nat.zero_le _) (Nat.zero_le _) (Nat.zero_le _) (Nat.zero_le _) ⟨_, _, hE.symm, rfl, rfl, rfl⟩
      · replace hE := fif hE c508
        exact aw_lv _ (List.forall_mem_cons.mpr ⟨rfl, fun _ h => absurd h List.not_mem_nil⟩) (b_X11_readPlanes_511 mo mw ms mt mu dd wi hi sp sr co hb n hms  s464 gt ta li _ hE hF)
  · replace hE := fit hE c467
    refine aw_iconst (v := 0) dX11_readPlanes_470 (by decide) ?_
    exact aw_zret dX11_readPlanes_471 rfl (narB (by decide)) (Nat.zero_le _) (Nat.zero_le _) (Nat.zero_le _) (Nat.zero_le _) ⟨_, _, hE.symm, rfl, rfl, rfl⟩
def F_X11_readPlanes_448 (sb : A)  (mr : MR) (gt : A) (ta : A) (li : A) : Out (MR × A × A × A) Int32 := fon (F_X11_wrong 2 65 mr) (fun z452 s452 => if isB z452 then (fok (z452 : Int32) (s452, gt, ta, li)) else fno) (fun _ _ => fno)
set_option maxHeartbeats 1000000 in
set_option maxRecDepth 100000 in
theorem b_X11_readPlanes_448 (mo : MO) (mw : MW) (ms : Nat) (mt : A) (mu : A) (dd : A) (wi : A) (hi : A) (sp : A) (sr : A) (co : A) (hb : aH) (n : Nat) (hms : isMS ms)  : Q_X11_readPlanes_448 mo mw ms mt mu dd wi hi sp sr co hb n (F_X11_readPlanes_448 (srcB ms mt mu)) := by
  intro mr gt ta li res hE hF
  unfold F_X11_readPlanes_448 at hE
  refine aw_aload_n dX11_readPlanes_448 rfl ?_
  refine aw_iconst (v := 2) dX11_readPlanes_449 (by decide) ?_
  refine aw_bipush (v := 65) dX11_readPlanes_450 (by decide) ?_
  refine aw_callV dX11_readPlanes_452 at_mod cvX11_90 rfl (kF_X11_wrong mo mw mr ms mt mu dd wi hi gt sp ta li sr co hb _  2 65 (fon_ne hE hF)) rfl (Nat.le_of_ble_eq_true rfl) (by decide) (by decide) (by decide) (by decide) (fun _ _ _ hf => False.elim hf) (fun r452 h452 n452 hp452 => ?_)
  obtain ⟨z452, s452, e452, rfl, rfl, rfl⟩ := hp452
  replace hE := fon_ok e452 hE
  obtain ⟨g455, hE⟩ := fgd hE hF
  exact aw_zret dX11_readPlanes_455 rfl (narB g455) (Nat.zero_le _) (Nat.zero_le _) (Nat.zero_le _) (Nat.zero_le _) ⟨_, _, hE.symm, rfl, rfl, rfl⟩
def F_X11_readPlanes_443 (sb : A)  (v1 : Int32) (v2 : Int32) (v7 : Int32) (mr : MR) (gt : A) (ta : A) (li : A) : Out (MR × A × A × A) Int32 := if v1 = 5 then (F_X11_readPlanes_456 sb v2 v7 mr gt ta li) else (F_X11_readPlanes_448 sb mr gt ta li)
set_option maxHeartbeats 1000000 in
set_option maxRecDepth 100000 in
theorem b_X11_readPlanes_443 (mo : MO) (mw : MW) (ms : Nat) (mt : A) (mu : A) (dd : A) (wi : A) (hi : A) (sp : A) (sr : A) (co : A) (hb : aH) (n : Nat) (hms : isMS ms)  : Q_X11_readPlanes_443 mo mw ms mt mu dd wi hi sp sr co hb n (F_X11_readPlanes_443 (srcB ms mt mu)) := by
  intro v1 v2 v7 mr gt ta li res hE hF
  unfold F_X11_readPlanes_443 at hE
  refine aw_iload_n dX11_readPlanes_443 rfl ?_
  refine aw_iconst (v := 5) dX11_readPlanes_444 (by decide) ?_
  refine aw_icmp_eq (tgt := 456) dX11_readPlanes_445 (by decide) (fun c445 => ?_) (fun c445 => ?_)
  · replace hE := fit hE c445
    exact aw_lv _ (List.forall_mem_cons.mpr ⟨rfl, (List.forall_mem_cons.mpr ⟨rfl, (List.forall_mem_cons.mpr ⟨rfl, fun _ h => absurd h List.not_mem_nil⟩)⟩)⟩) (b_X11_readPlanes_456 mo mw ms mt mu dd wi hi sp sr co hb n hms  v2 v7 mr gt ta li _ hE hF)
  · replace hE := fif hE c445
    exact aw_lv _ (List.forall_mem_cons.mpr ⟨rfl, fun _ h => absurd h List.not_mem_nil⟩) (b_X11_readPlanes_448 mo mw ms mt mu dd wi hi sp sr co hb n hms  mr gt ta li _ hE hF)
def F_X11_readPlanes_297 (sb : A) (k297 : Int32 → Int32 → Int32 → MR → A → A → A → Out (MR × A × A × A) Int32) (v1 : Int32) (v2 : Int32) (v7 : Int32) (mr : MR) (gt : A) (ta : A) (li : A) : Out (MR × A × A × A) Int32 := if 16 ≤ v7 then (fon (F_X11_want 1 ((mr_size mr), 64, (mr_kind mr), (mr_whr mr), (mr_gw mr), (mr_gh mr), (mr_one mr), (mr_two mr), (mr_three mr))) (fun z364 s364 => if z364 = 0 then (fok (0 : Int32) (s364, gt, ta, li)) else (fon (F_X11_want 1 ((mr_size s364), 65, (mr_kind s364), (mr_whr s364), (mr_gw s364), (mr_gh s364), (mr_one s364), (mr_two s364), (mr_three s364))) (fun z380 s380 => if z380 = 0 then (fok (0 : Int32) (s380, gt, ta, li)) else (fon (F_X11_b 65 sb) (fun z391 s391 => if v2 = 1 then (if z391 < 1 then (F_X11_readPlanes_448 sb s380 gt ta li) else (if z391 ≤ 4 then (F_X11_readPlanes_456 sb v2 z391 s380 gt ta li) else (F_X11_readPlanes_448 sb s380 gt ta li))) else (if 8 ≤ v2 then (if z391 = 1 then (F_X11_readPlanes_443 sb v1 v2 z391 s380 gt ta li) else (if z391 = 3 then (F_X11_readPlanes_443 sb v1 v2 z391 s380 gt ta li) else (F_X11_readPlanes_448 sb s380 gt ta li))) else (if z391 = 1 then (F_X11_readPlanes_456 sb v2 z391 s380 gt ta li) else (F_X11_readPlanes_448 sb s380 gt ta li)))) (fun _ _ => fno))) (fun _ _ => fno))) (fun _ _ => fno)) else (fon (F_X11_b (16 + (3 * v7)) sb) (fun z318 s318 => fon (F_X11_b (17 + (3 * v7)) sb) (fun z329 s329 => fon (F_X11_b (18 + (3 * v7)) sb) (fun z340 s340 => if inb v7 65536 then (k297 v1 v2 (v7 + 1) mr gt (upd ta (Int32.toNatClampNeg v7) (F_X11_mix z318 z329 z340 255)) li) else fno) (fun _ _ => fno)) (fun _ _ => fno)) (fun _ _ => fno))
set_option maxHeartbeats 1000000 in
set_option maxRecDepth 100000 in
theorem b_X11_readPlanes_297 (mo : MO) (mw : MW) (ms : Nat) (mt : A) (mu : A) (dd : A) (wi : A) (hi : A) (sp : A) (sr : A) (co : A) (hb : aH) (n : Nat) (hms : isMS ms) (k297 : Int32 → Int32 → Int32 → MR → A → A → A → Out (MR × A × A × A) Int32) (hk297 : Q_X11_readPlanes_297 mo mw ms mt mu dd wi hi sp sr co hb n k297) : Q_X11_readPlanes_297 mo mw ms mt mu dd wi hi sp sr co hb n (F_X11_readPlanes_297 (srcB ms mt mu) k297) := by
  intro v1 v2 v7 mr gt ta li res hE hF
  unfold F_X11_readPlanes_297 at hE
  refine aw_iload dX11_readPlanes_297 rfl ?_
  refine aw_bipush (v := 16) dX11_readPlanes_299 (by decide) ?_
  refine aw_icmp_ge (tgt := 356) dX11_readPlanes_301 (by decide) (fun c301 => ?_) (fun c301 => ?_)
  · replace hE := fit hE c301
    refine aw_aload_n dX11_readPlanes_356 rfl ?_
    refine aw_bipush (v := 64) dX11_readPlanes_357 (by decide) ?_
    refine aw_putf dX11_readPlanes_359 ptX11_84_10 at_mod (Nat.le_of_ble_eq_true rfl) ⟨rfl, rfl⟩ ?_
    refine aw_eqh (h2 := HM mo mw ((mr_size mr), 64, (mr_kind mr), (mr_whr mr), (mr_gw mr), (mr_gh mr), (mr_one mr), (mr_two mr), (mr_three mr)) ms mt mu dd wi hi gt sp ta li sr co hb) up_mod ?_
    refine aw_aload_n dX11_readPlanes_362 rfl ?_
    refine aw_iconst (v := 1) dX11_readPlanes_363 (by decide) ?_
    refine aw_callV dX11_readPlanes_364 at_mod cvX11_103 rfl (kF_X11_want mo mw ((mr_size mr), 64, (mr_kind mr), (mr_whr mr), (mr_gw mr), (mr_gh mr), (mr_one mr), (mr_two mr), (mr_three mr)) ms mt mu dd wi hi gt sp ta li sr co hb _  1 (fon_ne hE hF)) rfl (Nat.le_of_ble_eq_true rfl) (by decide) (by decide) (by decide) (by decide) (fun _ _ _ hf => False.elim hf) (fun r364 h364 n364 hp364 => ?_)
    obtain ⟨z364, s364, e364, rfl, rfl, rfl⟩ := hp364
    replace hE := fon_ok e364 hE
    refine aw_if_ne (tgt := 372) dX11_readPlanes_367 (by decide) (fun c367 => ?_) (fun c367 => ?_)
    · replace hE := fif hE c367
      refine aw_aload_n dX11_readPlanes_372 rfl ?_
      refine aw_bipush (v := 65) dX11_readPlanes_373 (by decide) ?_
      refine aw_putf dX11_readPlanes_375 ptX11_84_10 at_mod (Nat.le_of_ble_eq_true rfl) ⟨rfl, rfl⟩ ?_
      refine aw_eqh (h2 := HM mo mw ((mr_size s364), 65, (mr_kind s364), (mr_whr s364), (mr_gw s364), (mr_gh s364), (mr_one s364), (mr_two s364), (mr_three s364)) ms mt mu dd wi hi gt sp ta li sr co hb) up_mod ?_
      refine aw_aload_n dX11_readPlanes_378 rfl ?_
      refine aw_iconst (v := 1) dX11_readPlanes_379 (by decide) ?_
      refine aw_callV dX11_readPlanes_380 at_mod cvX11_103 rfl (kF_X11_want mo mw ((mr_size s364), 65, (mr_kind s364), (mr_whr s364), (mr_gw s364), (mr_gh s364), (mr_one s364), (mr_two s364), (mr_three s364)) ms mt mu dd wi hi gt sp ta li sr co hb _  1 (fon_ne hE hF)) rfl (Nat.le_of_ble_eq_true rfl) (by decide) (by decide) (by decide) (by decide) (fun _ _ _ hf => False.elim hf) (fun r380 h380 n380 hp380 => ?_)
      obtain ⟨z380, s380, e380, rfl, rfl, rfl⟩ := hp380
      replace hE := fon_ok e380 hE
      refine aw_if_ne (tgt := 388) dX11_readPlanes_383 (by decide) (fun c383 => ?_) (fun c383 => ?_)
      · replace hE := fif hE c383
        refine aw_aload_n dX11_readPlanes_388 rfl ?_
        refine aw_bipush (v := 65) dX11_readPlanes_389 (by decide) ?_
        refine aw_callV dX11_readPlanes_391 at_mod cvX11_99 rfl (kF_X11_b mo mw s380 ms mt mu dd wi hi gt sp ta li sr co hb _ hms 65 (fon_ne hE hF)) rfl (Nat.le_of_ble_eq_true rfl) (by decide) (by decide) (by decide) (by decide) (fun _ _ _ hf => False.elim hf) (fun r391 h391 n391 hp391 => ?_)
        obtain ⟨z391, s391, e391, rfl, rfl, rfl⟩ := hp391
        replace hE := fon_ok e391 hE
        refine aw_istore (lv2 := [(7, _), (0, _), (1, _), (2, _)]) dX11_readPlanes_394 (by decide) rfl ?_
        refine aw_iload_n dX11_readPlanes_396 rfl ?_
        refine aw_iconst (v := 1) dX11_readPlanes_397 (by decide) ?_
        refine aw_icmp_ne (tgt := 416) dX11_readPlanes_398 (by decide) (fun c398 => ?_) (fun c398 => ?_)
        · replace hE := fif hE c398
          refine aw_iload_n dX11_readPlanes_416 rfl ?_
          refine aw_bipush (v := 8) dX11_readPlanes_417 (by decide) ?_
          refine aw_icmp_ge (tgt := 431) dX11_readPlanes_419 (by decide) (fun c419 => ?_) (fun c419 => ?_)
          · replace hE := fit hE c419
            refine aw_iload dX11_readPlanes_431 rfl ?_
            refine aw_iconst (v := 1) dX11_readPlanes_433 (by decide) ?_
            refine aw_icmp_eq (tgt := 443) dX11_readPlanes_434 (by decide) (fun c434 => ?_) (fun c434 => ?_)
            · replace hE := fit hE c434
              exact aw_lv _ (List.forall_mem_cons.mpr ⟨rfl, (List.forall_mem_cons.mpr ⟨rfl, (List.forall_mem_cons.mpr ⟨rfl, (List.forall_mem_cons.mpr ⟨rfl, fun _ h => absurd h List.not_mem_nil⟩)⟩)⟩)⟩) (b_X11_readPlanes_443 mo mw ms mt mu dd wi hi sp sr co hb n hms  v1 v2 z391 s380 gt ta li _ hE hF)
            · replace hE := fif hE c434
              refine aw_iload dX11_readPlanes_437 rfl ?_
              refine aw_iconst (v := 3) dX11_readPlanes_439 (by decide) ?_
              refine aw_icmp_ne (tgt := 448) dX11_readPlanes_440 (by decide) (fun c440 => ?_) (fun c440 => ?_)
              · replace hE := fif hE c440
                exact aw_lv _ (List.forall_mem_cons.mpr ⟨rfl, fun _ h => absurd h List.not_mem_nil⟩) (b_X11_readPlanes_448 mo mw ms mt mu dd wi hi sp sr co hb n hms  s380 gt ta li _ hE hF)
              · replace hE := fit hE c440
                exact aw_lv _ (List.forall_mem_cons.mpr ⟨rfl, (List.forall_mem_cons.mpr ⟨rfl, (List.forall_mem_cons.mpr ⟨rfl, (List.forall_mem_cons.mpr ⟨rfl, fun _ h => absurd h List.not_mem_nil⟩)⟩)⟩)⟩) (b_X11_readPlanes_443 mo mw ms mt mu dd wi hi sp sr co hb n hms  v1 v2 z391 s380 gt ta li _ hE hF)
          · replace hE := fif hE c419
            refine aw_iload dX11_readPlanes_422 rfl ?_
            refine aw_iconst (v := 1) dX11_readPlanes_424 (by decide) ?_
            refine aw_icmp_eq (tgt := 456) dX11_readPlanes_425 (by decide) (fun c425 => ?_) (fun c425 => ?_)
            · replace hE := fit hE c425
              exact aw_lv _ (List.forall_mem_cons.mpr ⟨rfl, (List.forall_mem_cons.mpr ⟨rfl, (List.forall_mem_cons.mpr ⟨rfl, fun _ h => absurd h List.not_mem_nil⟩)⟩)⟩) (b_X11_readPlanes_456 mo mw ms mt mu dd wi hi sp sr co hb n hms  v2 z391 s380 gt ta li _ hE hF)
            · replace hE := fif hE c425
              refine aw_goto (tgt := 448) dX11_readPlanes_428 (by decide) ?_
              exact aw_lv _ (List.forall_mem_cons.mpr ⟨rfl, fun _ h => absurd h List.not_mem_nil⟩) (b_X11_readPlanes_448 mo mw ms mt mu dd wi hi sp sr co hb n hms  s380 gt ta li _ hE hF)
        · replace hE := fit hE c398
          refine aw_iload dX11_readPlanes_401 rfl ?_
          refine aw_iconst (v := 1) dX11_readPlanes_403 (by decide) ?_
          refine aw_icmp_lt (tgt := 448) dX11_readPlanes_404 (by decide) (fun c404 => ?_) (fun c404 => ?_)
          · replace hE := fit hE c404
            exact aw_lv _ (List.forall_mem_cons.mpr ⟨rfl, fun _ h => absurd h List.not_mem_nil⟩) (b_X11_readPlanes_448 mo mw ms mt mu dd wi hi sp sr co hb n hms  s380 gt ta li _ hE hF)
          · replace hE := fif hE c404
            refine aw_iload dX11_readPlanes_407 rfl ?_
            refine aw_iconst (v := 4) dX11_readPlanes_409 (by decide) ?_
            refine aw_icmp_le (tgt := 456) dX11_readPlanes_410 (by decide) (fun c410 => ?_) (fun c410 => ?_)
            · replace hE := fit hE c410
              exact aw_lv _ (List.forall_mem_cons.mpr ⟨rfl, (List.forall_mem_cons.mpr ⟨rfl, (List.forall_mem_cons.mpr ⟨rfl, fun _ h => absurd h List.not_mem_nil⟩)⟩)⟩) (b_X11_readPlanes_456 mo mw ms mt mu dd wi hi sp sr co hb n hms  v2 z391 s380 gt ta li _ hE hF)
            · replace hE := fif hE c410
              refine aw_goto (tgt := 448) dX11_readPlanes_413 (by decide) ?_
              exact aw_lv _ (List.forall_mem_cons.mpr ⟨rfl, fun _ h => absurd h List.not_mem_nil⟩) (b_X11_readPlanes_448 mo mw ms mt mu dd wi hi sp sr co hb n hms  s380 gt ta li _ hE hF)
      · replace hE := fit hE c383
        refine aw_iconst (v := 0) dX11_readPlanes_386 (by decide) ?_
        exact aw_zret dX11_readPlanes_387 rfl (narB (by decide)) (Nat.zero_le _) (Nat.zero_le _) (Nat.zero_le _) (Nat.zero_le _) ⟨_, _, hE.symm, rfl, rfl, rfl⟩
    · replace hE := fit hE c367
      refine aw_iconst (v := 0) dX11_readPlanes_370 (by decide) ?_
      exact aw_zret dX11_readPlanes_371 rfl (narB (by decide)) (Nat.zero_le _) (Nat.zero_le _) (Nat.zero_le _) (Nat.zero_le _) ⟨_, _, hE.symm, rfl, rfl, rfl⟩
  · replace hE := fif hE c301
    refine aw_aload_n dX11_readPlanes_304 rfl ?_
    refine aw_getf (v := .ref 39) dX11_readPlanes_305 flX11_49_10 at_mod rfl ?_
    refine aw_iload dX11_readPlanes_308 rfl ?_
    refine aw_aload_n dX11_readPlanes_310 rfl ?_
    refine aw_bipush (v := 16) dX11_readPlanes_311 (by decide) ?_
    refine aw_iconst (v := 3) dX11_readPlanes_313 (by decide) ?_
    refine aw_iload dX11_readPlanes_314 rfl ?_
    refine aw_imul dX11_readPlanes_316 ?_
    refine aw_iadd dX11_readPlanes_317 ?_
    refine aw_callV dX11_readPlanes_318 at_mod cvX11_99 rfl (kF_X11_b mo mw mr ms mt mu dd wi hi gt sp ta li sr co hb _ hms (16 + (3 * v7)) (fon_ne hE hF)) rfl (Nat.le_of_ble_eq_true rfl) (by decide) (by decide) (by decide) (by decide) (fun _ _ _ hf => False.elim hf) (fun r318 h318 n318 hp318 => ?_)
    obtain ⟨z318, s318, e318, rfl, rfl, rfl⟩ := hp318
    replace hE := fon_ok e318 hE
    refine aw_aload_n dX11_readPlanes_321 rfl ?_
    refine aw_bipush (v := 17) dX11_readPlanes_322 (by decide) ?_
    refine aw_iconst (v := 3) dX11_readPlanes_324 (by decide) ?_
    refine aw_iload dX11_readPlanes_325 rfl ?_
    refine aw_imul dX11_readPlanes_327 ?_
    refine aw_iadd dX11_readPlanes_328 ?_
    refine aw_callV dX11_readPlanes_329 at_mod cvX11_99 rfl (kF_X11_b mo mw mr ms mt mu dd wi hi gt sp ta li sr co hb _ hms (17 + (3 * v7)) (fon_ne hE hF)) rfl (Nat.le_of_ble_eq_true rfl) (by decide) (by decide) (by decide) (by decide) (fun _ _ _ hf => False.elim hf) (fun r329 h329 n329 hp329 => ?_)
    obtain ⟨z329, s329, e329, rfl, rfl, rfl⟩ := hp329
    replace hE := fon_ok e329 hE
    refine aw_aload_n dX11_readPlanes_332 rfl ?_
    refine aw_bipush (v := 18) dX11_readPlanes_333 (by decide) ?_
    refine aw_iconst (v := 3) dX11_readPlanes_335 (by decide) ?_
    refine aw_iload dX11_readPlanes_336 rfl ?_
    refine aw_imul dX11_readPlanes_338 ?_
    refine aw_iadd dX11_readPlanes_339 ?_
    refine aw_callV dX11_readPlanes_340 at_mod cvX11_99 rfl (kF_X11_b mo mw mr ms mt mu dd wi hi gt sp ta li sr co hb _ hms (18 + (3 * v7)) (fon_ne hE hF)) rfl (Nat.le_of_ble_eq_true rfl) (by decide) (by decide) (by decide) (by decide) (fun _ _ _ hf => False.elim hf) (fun r340 h340 n340 hp340 => ?_)
    obtain ⟨z340, s340, e340, rfl, rfl, rfl⟩ := hp340
    replace hE := fon_ok e340 hE
    refine aw_sipush (v := 255) dX11_readPlanes_343 (by decide) ?_
    refine aw_callS dX11_readPlanes_346  csX11_115 rfl (kF_X11_mix _ _ z318 z329 z340 255) rfl (Nat.le_of_ble_eq_true rfl) (by decide) (by decide) (by decide) (by decide) (fun _ _ _ hf => False.elim hf) (fun r346 h346 n346 hp346 => ?_)
    obtain ⟨rfl, rfl, rfl⟩ := hp346
    obtain ⟨g349, hE⟩ := fgd hE hF
    refine aw_iast (f := ta) dX11_readPlanes_349 at_mtable (vp_in_iff.mpr g349) ?_
    refine aw_eqh (h2 := HM mo mw mr ms mt mu dd wi hi gt sp (upd ta (Int32.toNatClampNeg v7) (F_X11_mix z318 z329 z340 255)) li sr co hb) up_mtable ?_
    refine aw_iinc (v := (v7 + 1)) (lv2 := [(7, _), (0, _), (1, _), (2, _)]) dX11_readPlanes_350 rfl (incE (by decide)) (by decide) rfl ?_
    refine aw_goto (tgt := 297) dX11_readPlanes_353 (by decide) ?_
    exact aw_lv _ (List.forall_mem_cons.mpr ⟨rfl, (List.forall_mem_cons.mpr ⟨rfl, (List.forall_mem_cons.mpr ⟨rfl, (List.forall_mem_cons.mpr ⟨rfl, fun _ h => absurd h List.not_mem_nil⟩)⟩)⟩)⟩) (hk297 v1 v2 (v7 + 1) mr gt (upd ta (Int32.toNatClampNeg v7) (F_X11_mix z318 z329 z340 255)) li _ hE hF)
def F_X11_readPlanes_251 (sb : A) (k251 : Int32 → Int32 → MR → A → A → A → Out (MR × A × A × A) Int32) (v1 : Int32) (v2 : Int32) (mr : MR) (gt : A) (ta : A) (li : A) : Out (MR × A × A × A) Int32 := if 16 ≤ (mr_pos mr) then (fon (F_X11_want 48 mr) (fun z286 s286 => if z286 = 0 then (fok (0 : Int32) (s286, gt, ta, li)) else (lp (fun _ _ _ _ _ _ _ => fno) (F_X11_readPlanes_297 sb) FU v1 v2 (0 : Int32) s286 gt ta li)) (fun _ _ => fno)) else (fon (F_X11_want 2 mr) (fun z262 s262 => if z262 = 0 then (fok (0 : Int32) (s262, gt, ta, li)) else (k251 v1 v2 ((mr_size s262), ((mr_pos s262) + 2), (mr_kind s262), (mr_whr s262), (mr_gw s262), (mr_gh s262), (mr_one s262), (mr_two s262), (mr_three s262)) gt ta li)) (fun _ _ => fno))
set_option maxHeartbeats 1000000 in
set_option maxRecDepth 100000 in
theorem b_X11_readPlanes_251 (mo : MO) (mw : MW) (ms : Nat) (mt : A) (mu : A) (dd : A) (wi : A) (hi : A) (sp : A) (sr : A) (co : A) (hb : aH) (n : Nat) (hms : isMS ms) (k251 : Int32 → Int32 → MR → A → A → A → Out (MR × A × A × A) Int32) (hk251 : Q_X11_readPlanes_251 mo mw ms mt mu dd wi hi sp sr co hb n k251) : Q_X11_readPlanes_251 mo mw ms mt mu dd wi hi sp sr co hb n (F_X11_readPlanes_251 (srcB ms mt mu) k251) := by
  intro v1 v2 mr gt ta li res hE hF
  unfold F_X11_readPlanes_251 at hE
  refine aw_aload_n dX11_readPlanes_251 rfl ?_
  refine aw_getf (v := .int (mr_pos mr)) dX11_readPlanes_252 flX11_84_10 at_mod rfl ?_
  refine aw_bipush (v := 16) dX11_readPlanes_255 (by decide) ?_
  refine aw_icmp_ge (tgt := 283) dX11_readPlanes_257 (by decide) (fun c257 => ?_) (fun c257 => ?_)
  · replace hE := fit hE c257
    refine aw_aload_n dX11_readPlanes_283 rfl ?_
    refine aw_bipush (v := 48) dX11_readPlanes_284 (by decide) ?_
    refine aw_callV dX11_readPlanes_286 at_mod cvX11_103 rfl (kF_X11_want mo mw mr ms mt mu dd wi hi gt sp ta li sr co hb _  48 (fon_ne hE hF)) rfl (Nat.le_of_ble_eq_true rfl) (by decide) (by decide) (by decide) (by decide) (fun _ _ _ hf => False.elim hf) (fun r286 h286 n286 hp286 => ?_)
    obtain ⟨z286, s286, e286, rfl, rfl, rfl⟩ := hp286
    replace hE := fon_ok e286 hE
    refine aw_if_ne (tgt := 294) dX11_readPlanes_289 (by decide) (fun c289 => ?_) (fun c289 => ?_)
    · replace hE := fif hE c289
      refine aw_iconst (v := 0) dX11_readPlanes_294 (by decide) ?_
      refine aw_istore (lv2 := [(7, _), (0, _), (1, _), (2, _)]) dX11_readPlanes_295 (by decide) rfl ?_
      exact aw_lv _ (List.forall_mem_cons.mpr ⟨rfl, (List.forall_mem_cons.mpr ⟨rfl, (List.forall_mem_cons.mpr ⟨rfl, (List.forall_mem_cons.mpr ⟨rfl, fun _ h => absurd h List.not_mem_nil⟩)⟩)⟩)⟩) (lp_ind (Q_X11_readPlanes_297 mo mw ms mt mu dd wi hi sp sr co hb n) (fun _ _ _ _ _ _ _ res hq hF => (hF hq.symm).elim) (fun k hk => b_X11_readPlanes_297 mo mw ms mt mu dd wi hi sp sr co hb n hms  k hk) FU v1 v2 (0 : Int32) s286 gt ta li _ hE hF)
    · replace hE := fit hE c289
      refine aw_iconst (v := 0) dX11_readPlanes_292 (by decide) ?_
      exact aw_zret dX11_readPlanes_293 rfl (narB (by decide)) (Nat.zero_le _) (Nat.zero_le _) (Nat.zero_le _) (Nat.zero_le _) ⟨_, _, hE.symm, rfl, rfl, rfl⟩
  · replace hE := fif hE c257
    refine aw_aload_n dX11_readPlanes_260 rfl ?_
    refine aw_iconst (v := 2) dX11_readPlanes_261 (by decide) ?_
    refine aw_callV dX11_readPlanes_262 at_mod cvX11_103 rfl (kF_X11_want mo mw mr ms mt mu dd wi hi gt sp ta li sr co hb _  2 (fon_ne hE hF)) rfl (Nat.le_of_ble_eq_true rfl) (by decide) (by decide) (by decide) (by decide) (fun _ _ _ hf => False.elim hf) (fun r262 h262 n262 hp262 => ?_)
    obtain ⟨z262, s262, e262, rfl, rfl, rfl⟩ := hp262
    replace hE := fon_ok e262 hE
    refine aw_if_ne (tgt := 270) dX11_readPlanes_265 (by decide) (fun c265 => ?_) (fun c265 => ?_)
    · replace hE := fif hE c265
      refine aw_aload_n dX11_readPlanes_270 rfl ?_
      refine aw_dup dX11_readPlanes_271 rfl ?_
      refine aw_getf (v := .int (mr_pos s262)) dX11_readPlanes_272 flX11_84_10 at_mod rfl ?_
      refine aw_iconst (v := 2) dX11_readPlanes_275 (by decide) ?_
      refine aw_iadd dX11_readPlanes_276 ?_
      refine aw_putf dX11_readPlanes_277 ptX11_84_10 at_mod (Nat.le_of_ble_eq_true rfl) ⟨rfl, rfl⟩ ?_
      refine aw_eqh (h2 := HM mo mw ((mr_size s262), ((mr_pos s262) + 2), (mr_kind s262), (mr_whr s262), (mr_gw s262), (mr_gh s262), (mr_one s262), (mr_two s262), (mr_three s262)) ms mt mu dd wi hi gt sp ta li sr co hb) up_mod ?_
      refine aw_goto (tgt := 251) dX11_readPlanes_280 (by decide) ?_
      exact aw_lv _ (List.forall_mem_cons.mpr ⟨rfl, (List.forall_mem_cons.mpr ⟨rfl, (List.forall_mem_cons.mpr ⟨rfl, fun _ h => absurd h List.not_mem_nil⟩)⟩)⟩) (hk251 v1 v2 ((mr_size s262), ((mr_pos s262) + 2), (mr_kind s262), (mr_whr s262), (mr_gw s262), (mr_gh s262), (mr_one s262), (mr_two s262), (mr_three s262)) gt ta li _ hE hF)
    · replace hE := fit hE c265
      refine aw_iconst (v := 0) dX11_readPlanes_268 (by decide) ?_
      exact aw_zret dX11_readPlanes_269 rfl (narB (by decide)) (Nat.zero_le _) (Nat.zero_le _) (Nat.zero_le _) (Nat.zero_le _) ⟨_, _, hE.symm, rfl, rfl, rfl⟩
def F_X11_readPlanes_108 (sb : A) (k108 : Int32 → Int32 → MR → A → A → A → Out (MR × A × A × A) Int32) (v1 : Int32) (v2 : Int32) (mr : MR) (gt : A) (ta : A) (li : A) : Out (MR × A × A × A) Int32 := if 8 ≤ (mr_pos mr) then (fon (F_X11_want 2 mr) (fun z142 s142 => if z142 = 0 then (fok (0 : Int32) (s142, gt, ta, li)) else (fon (F_X11_low 8 2 sb) (fun z154 s154 => fon (F_X11_low 4 2 sb) (fun z160 s160 => if 0 ≤ (lg_cmp ((z154 - z160) + 1) 1) then (fon (F_X11_want 2 ((mr_size s142), 10, (mr_kind s142), (mr_whr s142), (mr_gw s142), (mr_gh s142), (mr_one s142), (mr_two s142), (mr_three s142))) (fun z189 s189 => if z189 = 0 then (fok (0 : Int32) (s189, gt, ta, li)) else (fon (F_X11_low 10 2 sb) (fun z201 s201 => fon (F_X11_low 6 2 sb) (fun z208 s208 => if 0 ≤ (lg_cmp ((z201 - z208) + 1) 1) then (fon (F_X11_fits ((z154 - z160) + 1) ((z201 - z208) + 1) 10 s189) (fun z237 s237 => if z237 = 0 then (fok (0 : Int32) (s237, gt, ta, li)) else (lp (fun _ _ _ _ _ _ => fno) (F_X11_readPlanes_251 sb) FU v1 v2 ((mr_size s237), 12, (mr_kind s237), (mr_whr s237), (mr_gw s237), (mr_gh s237), (mr_one s237), (mr_two s237), (mr_three s237)) gt ta li)) (fun _ _ => fno)) else (fon (F_X11_wrong 2 10 s189) (fun z227 s227 => if isB z227 then (fok (z227 : Int32) (s227, gt, ta, li)) else fno) (fun _ _ => fno))) (fun _ _ => fno)) (fun _ _ => fno))) (fun _ _ => fno)) else (fon (F_X11_wrong 2 8 s142) (fun z177 s177 => if isB z177 then (fok (z177 : Int32) (s177, gt, ta, li)) else fno) (fun _ _ => fno))) (fun _ _ => fno)) (fun _ _ => fno))) (fun _ _ => fno)) else (fon (F_X11_want 2 mr) (fun z119 s119 => if z119 = 0 then (fok (0 : Int32) (s119, gt, ta, li)) else (k108 v1 v2 ((mr_size s119), ((mr_pos s119) + 2), (mr_kind s119), (mr_whr s119), (mr_gw s119), (mr_gh s119), (mr_one s119), (mr_two s119), (mr_three s119)) gt ta li)) (fun _ _ => fno))
set_option maxHeartbeats 1000000 in
set_option maxRecDepth 100000 in
theorem b_X11_readPlanes_108 (mo : MO) (mw : MW) (ms : Nat) (mt : A) (mu : A) (dd : A) (wi : A) (hi : A) (sp : A) (sr : A) (co : A) (hb : aH) (n : Nat) (hms : isMS ms) (k108 : Int32 → Int32 → MR → A → A → A → Out (MR × A × A × A) Int32) (hk108 : Q_X11_readPlanes_108 mo mw ms mt mu dd wi hi sp sr co hb n k108) : Q_X11_readPlanes_108 mo mw ms mt mu dd wi hi sp sr co hb n (F_X11_readPlanes_108 (srcB ms mt mu) k108) := by
  intro v1 v2 mr gt ta li res hE hF
  unfold F_X11_readPlanes_108 at hE
  refine aw_aload_n dX11_readPlanes_108 rfl ?_
  refine aw_getf (v := .int (mr_pos mr)) dX11_readPlanes_109 flX11_84_10 at_mod rfl ?_
  refine aw_bipush (v := 8) dX11_readPlanes_112 (by decide) ?_
  refine aw_icmp_ge (tgt := 140) dX11_readPlanes_114 (by decide) (fun c114 => ?_) (fun c114 => ?_)
  · replace hE := fit hE c114
    refine aw_aload_n dX11_readPlanes_140 rfl ?_
    refine aw_iconst (v := 2) dX11_readPlanes_141 (by decide) ?_
    refine aw_callV dX11_readPlanes_142 at_mod cvX11_103 rfl (kF_X11_want mo mw mr ms mt mu dd wi hi gt sp ta li sr co hb _  2 (fon_ne hE hF)) rfl (Nat.le_of_ble_eq_true rfl) (by decide) (by decide) (by decide) (by decide) (fun _ _ _ hf => False.elim hf) (fun r142 h142 n142 hp142 => ?_)
    obtain ⟨z142, s142, e142, rfl, rfl, rfl⟩ := hp142
    replace hE := fon_ok e142 hE
    refine aw_if_ne (tgt := 150) dX11_readPlanes_145 (by decide) (fun c145 => ?_) (fun c145 => ?_)
    · replace hE := fif hE c145
      refine aw_aload_n dX11_readPlanes_150 rfl ?_
      refine aw_bipush (v := 8) dX11_readPlanes_151 (by decide) ?_
      refine aw_iconst (v := 2) dX11_readPlanes_153 (by decide) ?_
      refine aw_callV dX11_readPlanes_154 at_mod cvX11_183 rfl (kF_X11_low mo mw s142 ms mt mu dd wi hi gt sp ta li sr co hb _ hms 8 2 (fon_ne hE hF)) rfl (Nat.le_of_ble_eq_true rfl) (by decide) (by decide) (by decide) (by decide) (fun _ _ _ hf => False.elim hf) (fun r154 h154 n154 hp154 => ?_)
      obtain ⟨z154, s154, e154, rfl, rfl, rfl⟩ := hp154
      replace hE := fon_ok e154 hE
      refine aw_aload_n dX11_readPlanes_157 rfl ?_
      refine aw_iconst (v := 4) dX11_readPlanes_158 (by decide) ?_
      refine aw_iconst (v := 2) dX11_readPlanes_159 (by decide) ?_
      refine aw_callV dX11_readPlanes_160 at_mod cvX11_183 rfl (kF_X11_low mo mw s142 ms mt mu dd wi hi gt sp ta li sr co hb _ hms 4 2 (fon_ne hE hF)) rfl (Nat.le_of_ble_eq_true rfl) (by decide) (by decide) (by decide) (by decide) (fun _ _ _ hf => False.elim hf) (fun r160 h160 n160 hp160 => ?_)
      obtain ⟨z160, s160, e160, rfl, rfl, rfl⟩ := hp160
      replace hE := fon_ok e160 hE
      refine aw_lsub dX11_readPlanes_163 ?_
      refine aw_lconst (v := 1) dX11_readPlanes_164 (by decide) ?_
      refine aw_ladd dX11_readPlanes_165 ?_
      refine aw_lstore_n (lv2 := [(3, _), (0, _), (1, _), (2, _)]) dX11_readPlanes_166 (by decide) rfl ?_
      refine aw_lload_n dX11_readPlanes_167 rfl ?_
      refine aw_lconst (v := 1) dX11_readPlanes_168 (by decide) ?_
      refine aw_lcmp dX11_readPlanes_169 ?_
      refine aw_if_ge (tgt := 181) dX11_readPlanes_170 (by decide) (fun c170 => ?_) (fun c170 => ?_)
      · replace hE := fit hE c170
        refine aw_aload_n dX11_readPlanes_181 rfl ?_
        refine aw_bipush (v := 10) dX11_readPlanes_182 (by decide) ?_
        refine aw_putf dX11_readPlanes_184 ptX11_84_10 at_mod (Nat.le_of_ble_eq_true rfl) ⟨rfl, rfl⟩ ?_
        refine aw_eqh (h2 := HM mo mw ((mr_size s142), 10, (mr_kind s142), (mr_whr s142), (mr_gw s142), (mr_gh s142), (mr_one s142), (mr_two s142), (mr_three s142)) ms mt mu dd wi hi gt sp ta li sr co hb) up_mod ?_
        refine aw_aload_n dX11_readPlanes_187 rfl ?_
        refine aw_iconst (v := 2) dX11_readPlanes_188 (by decide) ?_
        refine aw_callV dX11_readPlanes_189 at_mod cvX11_103 rfl (kF_X11_want mo mw ((mr_size s142), 10, (mr_kind s142), (mr_whr s142), (mr_gw s142), (mr_gh s142), (mr_one s142), (mr_two s142), (mr_three s142)) ms mt mu dd wi hi gt sp ta li sr co hb _  2 (fon_ne hE hF)) rfl (Nat.le_of_ble_eq_true rfl) (by decide) (by decide) (by decide) (by decide) (fun _ _ _ hf => False.elim hf) (fun r189 h189 n189 hp189 => ?_)
        obtain ⟨z189, s189, e189, rfl, rfl, rfl⟩ := hp189
        replace hE := fon_ok e189 hE
        refine aw_if_ne (tgt := 197) dX11_readPlanes_192 (by decide) (fun c192 => ?_) (fun c192 => ?_)
        · replace hE := fif hE c192
          refine aw_aload_n dX11_readPlanes_197 rfl ?_
          refine aw_bipush (v := 10) dX11_readPlanes_198 (by decide) ?_
          refine aw_iconst (v := 2) dX11_readPlanes_200 (by decide) ?_
          refine aw_callV dX11_readPlanes_201 at_mod cvX11_183 rfl (kF_X11_low mo mw s189 ms mt mu dd wi hi gt sp ta li sr co hb _ hms 10 2 (fon_ne hE hF)) rfl (Nat.le_of_ble_eq_true rfl) (by decide) (by decide) (by decide) (by decide) (fun _ _ _ hf => False.elim hf) (fun r201 h201 n201 hp201 => ?_)
          obtain ⟨z201, s201, e201, rfl, rfl, rfl⟩ := hp201
          replace hE := fon_ok e201 hE
          refine aw_aload_n dX11_readPlanes_204 rfl ?_
          refine aw_bipush (v := 6) dX11_readPlanes_205 (by decide) ?_
          refine aw_iconst (v := 2) dX11_readPlanes_207 (by decide) ?_
          refine aw_callV dX11_readPlanes_208 at_mod cvX11_183 rfl (kF_X11_low mo mw s189 ms mt mu dd wi hi gt sp ta li sr co hb _ hms 6 2 (fon_ne hE hF)) rfl (Nat.le_of_ble_eq_true rfl) (by decide) (by decide) (by decide) (by decide) (fun _ _ _ hf => False.elim hf) (fun r208 h208 n208 hp208 => ?_)
          obtain ⟨z208, s208, e208, rfl, rfl, rfl⟩ := hp208
          replace hE := fon_ok e208 hE
          refine aw_lsub dX11_readPlanes_211 ?_
          refine aw_lconst (v := 1) dX11_readPlanes_212 (by decide) ?_
          refine aw_ladd dX11_readPlanes_213 ?_
          refine aw_lstore (lv2 := [(5, _), (3, _), (0, _), (1, _), (2, _)]) dX11_readPlanes_214 (by decide) rfl ?_
          refine aw_lload dX11_readPlanes_216 rfl ?_
          refine aw_lconst (v := 1) dX11_readPlanes_218 (by decide) ?_
          refine aw_lcmp dX11_readPlanes_219 ?_
          refine aw_if_ge (tgt := 231) dX11_readPlanes_220 (by decide) (fun c220 => ?_) (fun c220 => ?_)
          · replace hE := fit hE c220
            refine aw_aload_n dX11_readPlanes_231 rfl ?_
            refine aw_lload_n dX11_readPlanes_232 rfl ?_
            refine aw_lload dX11_readPlanes_233 rfl ?_
            refine aw_bipush (v := 10) dX11_readPlanes_235 (by decide) ?_
            refine aw_callV dX11_readPlanes_237 at_mod cvX11_126 rfl (kF_X11_fits mo mw s189 ms mt mu dd wi hi gt sp ta li sr co hb _  ((z154 - z160) + 1) ((z201 - z208) + 1) 10 (fon_ne hE hF)) rfl (Nat.le_of_ble_eq_true rfl) (by decide) (by decide) (by decide) (by decide) (fun _ _ _ hf => False.elim hf) (fun r237 h237 n237 hp237 => ?_)
            obtain ⟨z237, s237, e237, rfl, rfl, rfl⟩ := hp237
            replace hE := fon_ok e237 hE
            refine aw_if_ne (tgt := 245) dX11_readPlanes_240 (by decide) (fun c240 => ?_) (fun c240 => ?_)
            · replace hE := fif hE c240
              refine aw_aload_n dX11_readPlanes_245 rfl ?_
              refine aw_bipush (v := 12) dX11_readPlanes_246 (by decide) ?_
              refine aw_putf dX11_readPlanes_248 ptX11_84_10 at_mod (Nat.le_of_ble_eq_true rfl) ⟨rfl, rfl⟩ ?_
              refine aw_eqh (h2 := HM mo mw ((mr_size s237), 12, (mr_kind s237), (mr_whr s237), (mr_gw s237), (mr_gh s237), (mr_one s237), (mr_two s237), (mr_three s237)) ms mt mu dd wi hi gt sp ta li sr co hb) up_mod ?_
              exact aw_lv _ (List.forall_mem_cons.mpr ⟨rfl, (List.forall_mem_cons.mpr ⟨rfl, (List.forall_mem_cons.mpr ⟨rfl, fun _ h => absurd h List.not_mem_nil⟩)⟩)⟩) (lp_ind (Q_X11_readPlanes_251 mo mw ms mt mu dd wi hi sp sr co hb n) (fun _ _ _ _ _ _ res hq hF => (hF hq.symm).elim) (fun k hk => b_X11_readPlanes_251 mo mw ms mt mu dd wi hi sp sr co hb n hms  k hk) FU v1 v2 ((mr_size s237), 12, (mr_kind s237), (mr_whr s237), (mr_gw s237), (mr_gh s237), (mr_one s237), (mr_two s237), (mr_three s237)) gt ta li _ hE hF)
            · replace hE := fit hE c240
              refine aw_iconst (v := 0) dX11_readPlanes_243 (by decide) ?_
              exact aw_zret dX11_readPlanes_244 rfl (narB (by decide)) (Nat.zero_le _) (Nat.zero_le _) (Nat.zero_le _) (Nat.zero_le _) ⟨_, _, hE.symm, rfl, rfl, rfl⟩
          · replace hE := fif hE c220
            refine aw_aload_n dX11_readPlanes_223 rfl ?_
            refine aw_iconst (v := 2) dX11_readPlanes_224 (by decide) ?_
            refine aw_bipush (v := 10) dX11_readPlanes_225 (by decide) ?_
            refine aw_callV dX11_readPlanes_227 at_mod cvX11_90 rfl (kF_X11_wrong mo mw s189 ms mt mu dd wi hi gt sp ta li sr co hb _  2 10 (fon_ne hE hF)) rfl (Nat.le_of_ble_eq_true rfl) (by decide) (by decide) (by decide) (by decide) (fun _ _ _ hf => False.elim hf) (fun r227 h227 n227 hp227 => ?_)
            obtain ⟨z227, s227, e227, rfl, rfl, rfl⟩ := hp227
            replace hE := fon_ok e227 hE
            obtain ⟨g230, hE⟩ := fgd hE hF
            exact aw_zret dX11_readPlanes_230 rfl (narB g230) (Nat.zero_le _) (Nat.zero_le _) (Nat.zero_le _) (Nat.zero_le _) ⟨_, _, hE.symm, rfl, rfl, rfl⟩
        · replace hE := fit hE c192
          refine aw_iconst (v := 0) dX11_readPlanes_195 (by decide) ?_
          exact aw_zret dX11_readPlanes_196 rfl (narB (by decide)) (Nat.zero_le _) (Nat.zero_le _) (Nat.zero_le _) (Nat.zero_le _) ⟨_, _, hE.symm, rfl, rfl, rfl⟩
      · replace hE := fif hE c170
        refine aw_aload_n dX11_readPlanes_173 rfl ?_
        refine aw_iconst (v := 2) dX11_readPlanes_174 (by decide) ?_
        refine aw_bipush (v := 8) dX11_readPlanes_175 (by decide) ?_
        refine aw_callV dX11_readPlanes_177 at_mod cvX11_90 rfl (kF_X11_wrong mo mw s142 ms mt mu dd wi hi gt sp ta li sr co hb _  2 8 (fon_ne hE hF)) rfl (Nat.le_of_ble_eq_true rfl) (by decide) (by decide) (by decide) (by decide) (fun _ _ _ hf => False.elim hf) (fun r177 h177 n177 hp177 => ?_)
        obtain ⟨z177, s177, e177, rfl, rfl, rfl⟩ := hp177
        replace hE := fon_ok e177 hE
        obtain ⟨g180, hE⟩ := fgd hE hF
        exact aw_zret dX11_readPlanes_180 rfl (narB g180) (Nat.zero_le _) (Nat.zero_le _) (Nat.zero_le _) (Nat.zero_le _) ⟨_, _, hE.symm, rfl, rfl, rfl⟩
    · replace hE := fit hE c145
      refine aw_iconst (v := 0) dX11_readPlanes_148 (by decide) ?_
      exact aw_zret dX11_readPlanes_149 rfl (narB (by decide)) (Nat.zero_le _) (Nat.zero_le _) (Nat.zero_le _) (Nat.zero_le _) ⟨_, _, hE.symm, rfl, rfl, rfl⟩
  · replace hE := fif hE c114
    refine aw_aload_n dX11_readPlanes_117 rfl ?_
    refine aw_iconst (v := 2) dX11_readPlanes_118 (by decide) ?_
    refine aw_callV dX11_readPlanes_119 at_mod cvX11_103 rfl (kF_X11_want mo mw mr ms mt mu dd wi hi gt sp ta li sr co hb _  2 (fon_ne hE hF)) rfl (Nat.le_of_ble_eq_true rfl) (by decide) (by decide) (by decide) (by decide) (fun _ _ _ hf => False.elim hf) (fun r119 h119 n119 hp119 => ?_)
    obtain ⟨z119, s119, e119, rfl, rfl, rfl⟩ := hp119
    replace hE := fon_ok e119 hE
    refine aw_if_ne (tgt := 127) dX11_readPlanes_122 (by decide) (fun c122 => ?_) (fun c122 => ?_)
    · replace hE := fif hE c122
      refine aw_aload_n dX11_readPlanes_127 rfl ?_
      refine aw_dup dX11_readPlanes_128 rfl ?_
      refine aw_getf (v := .int (mr_pos s119)) dX11_readPlanes_129 flX11_84_10 at_mod rfl ?_
      refine aw_iconst (v := 2) dX11_readPlanes_132 (by decide) ?_
      refine aw_iadd dX11_readPlanes_133 ?_
      refine aw_putf dX11_readPlanes_134 ptX11_84_10 at_mod (Nat.le_of_ble_eq_true rfl) ⟨rfl, rfl⟩ ?_
      refine aw_eqh (h2 := HM mo mw ((mr_size s119), ((mr_pos s119) + 2), (mr_kind s119), (mr_whr s119), (mr_gw s119), (mr_gh s119), (mr_one s119), (mr_two s119), (mr_three s119)) ms mt mu dd wi hi gt sp ta li sr co hb) up_mod ?_
      refine aw_goto (tgt := 108) dX11_readPlanes_137 (by decide) ?_
      exact aw_lv _ (List.forall_mem_cons.mpr ⟨rfl, (List.forall_mem_cons.mpr ⟨rfl, (List.forall_mem_cons.mpr ⟨rfl, fun _ h => absurd h List.not_mem_nil⟩)⟩)⟩) (hk108 v1 v2 ((mr_size s119), ((mr_pos s119) + 2), (mr_kind s119), (mr_whr s119), (mr_gw s119), (mr_gh s119), (mr_one s119), (mr_two s119), (mr_three s119)) gt ta li _ hE hF)
    · replace hE := fit hE c122
      refine aw_iconst (v := 0) dX11_readPlanes_125 (by decide) ?_
      exact aw_zret dX11_readPlanes_126 rfl (narB (by decide)) (Nat.zero_le _) (Nat.zero_le _) (Nat.zero_le _) (Nat.zero_le _) ⟨_, _, hE.symm, rfl, rfl, rfl⟩
def F_X11_readPlanes_103 (sb : A)  (v1 : Int32) (v2 : Int32) (mr : MR) (gt : A) (ta : A) (li : A) : Out (MR × A × A × A) Int32 := lp (fun _ _ _ _ _ _ => fno) (F_X11_readPlanes_108 sb) FU v1 v2 ((mr_size mr), 4, (mr_kind mr), (mr_whr mr), (mr_gw mr), (mr_gh mr), (mr_one mr), (mr_two mr), (mr_three mr)) gt ta li
set_option maxHeartbeats 1000000 in
set_option maxRecDepth 100000 in
theorem b_X11_readPlanes_103 (mo : MO) (mw : MW) (ms : Nat) (mt : A) (mu : A) (dd : A) (wi : A) (hi : A) (sp : A) (sr : A) (co : A) (hb : aH) (n : Nat) (hms : isMS ms)  : Q_X11_readPlanes_103 mo mw ms mt mu dd wi hi sp sr co hb n (F_X11_readPlanes_103 (srcB ms mt mu)) := by
  intro v1 v2 mr gt ta li res hE hF
  unfold F_X11_readPlanes_103 at hE
  refine aw_aload_n dX11_readPlanes_103 rfl ?_
  refine aw_iconst (v := 4) dX11_readPlanes_104 (by decide) ?_
  refine aw_putf dX11_readPlanes_105 ptX11_84_10 at_mod (Nat.le_of_ble_eq_true rfl) ⟨rfl, rfl⟩ ?_
  refine aw_eqh (h2 := HM mo mw ((mr_size mr), 4, (mr_kind mr), (mr_whr mr), (mr_gw mr), (mr_gh mr), (mr_one mr), (mr_two mr), (mr_three mr)) ms mt mu dd wi hi gt sp ta li sr co hb) up_mod ?_
  exact aw_lv _ (List.forall_mem_cons.mpr ⟨rfl, (List.forall_mem_cons.mpr ⟨rfl, (List.forall_mem_cons.mpr ⟨rfl, fun _ h => absurd h List.not_mem_nil⟩)⟩)⟩) (lp_ind (Q_X11_readPlanes_108 mo mw ms mt mu dd wi hi sp sr co hb n) (fun _ _ _ _ _ _ res hq hF => (hF hq.symm).elim) (fun k hk => b_X11_readPlanes_108 mo mw ms mt mu dd wi hi sp sr co hb n hms  k hk) FU v1 v2 ((mr_size mr), 4, (mr_kind mr), (mr_whr mr), (mr_gw mr), (mr_gh mr), (mr_one mr), (mr_two mr), (mr_three mr)) gt ta li _ hE hF)
def F_X11_readPlanes_37 (sb : A)  (mr : MR) (gt : A) (ta : A) (li : A) : Out (MR × A × A × A) Int32 := fon (F_X11_wrong 2 1 mr) (fun z40 s40 => if isB z40 then (fok (z40 : Int32) (s40, gt, ta, li)) else fno) (fun _ _ => fno)
set_option maxHeartbeats 1000000 in
set_option maxRecDepth 100000 in
theorem b_X11_readPlanes_37 (mo : MO) (mw : MW) (ms : Nat) (mt : A) (mu : A) (dd : A) (wi : A) (hi : A) (sp : A) (sr : A) (co : A) (hb : aH) (n : Nat) (hms : isMS ms)  : Q_X11_readPlanes_37 mo mw ms mt mu dd wi hi sp sr co hb n (F_X11_readPlanes_37 (srcB ms mt mu)) := by
  intro mr gt ta li res hE hF
  unfold F_X11_readPlanes_37 at hE
  refine aw_aload_n dX11_readPlanes_37 rfl ?_
  refine aw_iconst (v := 2) dX11_readPlanes_38 (by decide) ?_
  refine aw_iconst (v := 1) dX11_readPlanes_39 (by decide) ?_
  refine aw_callV dX11_readPlanes_40 at_mod cvX11_90 rfl (kF_X11_wrong mo mw mr ms mt mu dd wi hi gt sp ta li sr co hb _  2 1 (fon_ne hE hF)) rfl (Nat.le_of_ble_eq_true rfl) (by decide) (by decide) (by decide) (by decide) (fun _ _ _ hf => False.elim hf) (fun r40 h40 n40 hp40 => ?_)
  obtain ⟨z40, s40, e40, rfl, rfl, rfl⟩ := hp40
  replace hE := fon_ok e40 hE
  obtain ⟨g43, hE⟩ := fgd hE hF
  exact aw_zret dX11_readPlanes_43 rfl (narB g43) (Nat.zero_le _) (Nat.zero_le _) (Nat.zero_le _) (Nat.zero_le _) ⟨_, _, hE.symm, rfl, rfl, rfl⟩
def F_X11_readPlanes (sb : A) (mr : MR) (gt : A) (ta : A) (li : A) : Out (MR × A × A × A) Int32 := fon (F_X11_sign 10 sb mr) (fun z3 s3 => if z3 = 0 then (fok (0 : Int32) (s3, gt, ta, li)) else (fon (F_X11_want 1 s3) (fun z13 s13 => if z13 = 0 then (fok (0 : Int32) (s13, gt, ta, li)) else (fon (F_X11_b 1 sb) (fun z23 s23 => if z23 = 1 then (F_X11_readPlanes_37 sb s13 gt ta li) else (if z23 ≤ 5 then (fon (F_X11_sign 1 sb ((mr_size s13), 2, (mr_kind s13), (mr_whr s13), (mr_gw s13), (mr_gh s13), (mr_one s13), (mr_two s13), (mr_three s13))) (fun z51 s51 => if z51 = 0 then (fok (0 : Int32) (s51, gt, ta, li)) else (fon (F_X11_want 1 s51) (fun z61 s61 => if z61 = 0 then (fok (0 : Int32) (s61, gt, ta, li)) else (fon (F_X11_b 3 sb) (fun z71 s71 => if z71 = 1 then (F_X11_readPlanes_103 sb z23 z71 s61 gt ta li) else (if z71 = 2 then (F_X11_readPlanes_103 sb z23 z71 s61 gt ta li) else (if z71 = 4 then (F_X11_readPlanes_103 sb z23 z71 s61 gt ta li) else (if z71 = 8 then (F_X11_readPlanes_103 sb z23 z71 s61 gt ta li) else (fon (F_X11_wrong 2 3 s61) (fun z99 s99 => if isB z99 then (fok (z99 : Int32) (s99, gt, ta, li)) else fno) (fun _ _ => fno)))))) (fun _ _ => fno))) (fun _ _ => fno))) (fun _ _ => fno)) else (F_X11_readPlanes_37 sb s13 gt ta li))) (fun _ _ => fno))) (fun _ _ => fno))) (fun _ _ => fno)
set_option maxHeartbeats 1000000 in
set_option maxRecDepth 100000 in
theorem kF_X11_readPlanes (mo : MO) (mw : MW) (mr : MR) (ms : Nat) (mt : A) (mu : A) (dd : A) (wi : A) (hi : A) (gt : A) (sp : A) (ta : A) (li : A) (sr : A) (co : A) (hb : aH) (n : Nat) (hms : isMS ms)  (hF : F_X11_readPlanes (srcB ms mt mu) mr gt ta li ≠ fno) : AM mX11_readPlanes 4 [.ref 31] (HM mo mw mr ms mt mu dd wi hi gt sp ta li sr co hb) n 0 0 0 0 (P_X11_readPlanes mo mw ms mt mu dd wi hi sp sr co hb n (F_X11_readPlanes (srcB ms mt mu) mr gt ta li)) (fun _ _ _ => False) := by
  generalize hE : F_X11_readPlanes (srcB ms mt mu) mr gt ta li = res at hF ⊢
  refine aw_of (by decide +kernel) rfl (Nat.le_of_ble_eq_true rfl) ?_
  unfold F_X11_readPlanes at hE
  refine aw_aload_n dX11_readPlanes_0 rfl ?_
  refine aw_bipush (v := 10) dX11_readPlanes_1 (by decide) ?_
  refine aw_callV dX11_readPlanes_3 at_mod cvX11_119 rfl (kF_X11_sign mo mw mr ms mt mu dd wi hi gt sp ta li sr co hb _ hms 10 (fon_ne hE hF)) rfl (Nat.le_of_ble_eq_true rfl) (by decide) (by decide) (by decide) (by decide) (fun _ _ _ hf => False.elim hf) (fun r3 h3 n3 hp3 => ?_)
  obtain ⟨z3, s3, e3, rfl, rfl, rfl⟩ := hp3
  replace hE := fon_ok e3 hE
  refine aw_if_ne (tgt := 11) dX11_readPlanes_6 (by decide) (fun c6 => ?_) (fun c6 => ?_)
  · replace hE := fif hE c6
    refine aw_aload_n dX11_readPlanes_11 rfl ?_
    refine aw_iconst (v := 1) dX11_readPlanes_12 (by decide) ?_
    refine aw_callV dX11_readPlanes_13 at_mod cvX11_103 rfl (kF_X11_want mo mw s3 ms mt mu dd wi hi gt sp ta li sr co hb _  1 (fon_ne hE hF)) rfl (Nat.le_of_ble_eq_true rfl) (by decide) (by decide) (by decide) (by decide) (fun _ _ _ hf => False.elim hf) (fun r13 h13 n13 hp13 => ?_)
    obtain ⟨z13, s13, e13, rfl, rfl, rfl⟩ := hp13
    replace hE := fon_ok e13 hE
    refine aw_if_ne (tgt := 21) dX11_readPlanes_16 (by decide) (fun c16 => ?_) (fun c16 => ?_)
    · replace hE := fif hE c16
      refine aw_aload_n dX11_readPlanes_21 rfl ?_
      refine aw_iconst (v := 1) dX11_readPlanes_22 (by decide) ?_
      refine aw_callV dX11_readPlanes_23 at_mod cvX11_99 rfl (kF_X11_b mo mw s13 ms mt mu dd wi hi gt sp ta li sr co hb _ hms 1 (fon_ne hE hF)) rfl (Nat.le_of_ble_eq_true rfl) (by decide) (by decide) (by decide) (by decide) (fun _ _ _ hf => False.elim hf) (fun r23 h23 n23 hp23 => ?_)
      obtain ⟨z23, s23, e23, rfl, rfl, rfl⟩ := hp23
      replace hE := fon_ok e23 hE
      refine aw_istore_n (lv2 := [(1, _), (0, _)]) dX11_readPlanes_26 (by decide) rfl ?_
      refine aw_iload_n dX11_readPlanes_27 rfl ?_
      refine aw_iconst (v := 1) dX11_readPlanes_28 (by decide) ?_
      refine aw_icmp_eq (tgt := 37) dX11_readPlanes_29 (by decide) (fun c29 => ?_) (fun c29 => ?_)
      · replace hE := fit hE c29
        exact aw_lv _ (List.forall_mem_cons.mpr ⟨rfl, fun _ h => absurd h List.not_mem_nil⟩) (b_X11_readPlanes_37 mo mw ms mt mu dd wi hi sp sr co hb n hms  s13 gt ta li _ hE hF)
      · replace hE := fif hE c29
        refine aw_iload_n dX11_readPlanes_32 rfl ?_
        refine aw_iconst (v := 5) dX11_readPlanes_33 (by decide) ?_
        refine aw_icmp_le (tgt := 44) dX11_readPlanes_34 (by decide) (fun c34 => ?_) (fun c34 => ?_)
        · replace hE := fit hE c34
          refine aw_aload_n dX11_readPlanes_44 rfl ?_
          refine aw_iconst (v := 2) dX11_readPlanes_45 (by decide) ?_
          refine aw_putf dX11_readPlanes_46 ptX11_84_10 at_mod (Nat.le_of_ble_eq_true rfl) ⟨rfl, rfl⟩ ?_
          refine aw_eqh (h2 := HM mo mw ((mr_size s13), 2, (mr_kind s13), (mr_whr s13), (mr_gw s13), (mr_gh s13), (mr_one s13), (mr_two s13), (mr_three s13)) ms mt mu dd wi hi gt sp ta li sr co hb) up_mod ?_
          refine aw_aload_n dX11_readPlanes_49 rfl ?_
          refine aw_iconst (v := 1) dX11_readPlanes_50 (by decide) ?_
          refine aw_callV dX11_readPlanes_51 at_mod cvX11_119 rfl (kF_X11_sign mo mw ((mr_size s13), 2, (mr_kind s13), (mr_whr s13), (mr_gw s13), (mr_gh s13), (mr_one s13), (mr_two s13), (mr_three s13)) ms mt mu dd wi hi gt sp ta li sr co hb _ hms 1 (fon_ne hE hF)) rfl (Nat.le_of_ble_eq_true rfl) (by decide) (by decide) (by decide) (by decide) (fun _ _ _ hf => False.elim hf) (fun r51 h51 n51 hp51 => ?_)
          obtain ⟨z51, s51, e51, rfl, rfl, rfl⟩ := hp51
          replace hE := fon_ok e51 hE
          refine aw_if_ne (tgt := 59) dX11_readPlanes_54 (by decide) (fun c54 => ?_) (fun c54 => ?_)
          · replace hE := fif hE c54
            refine aw_aload_n dX11_readPlanes_59 rfl ?_
            refine aw_iconst (v := 1) dX11_readPlanes_60 (by decide) ?_
            refine aw_callV dX11_readPlanes_61 at_mod cvX11_103 rfl (kF_X11_want mo mw s51 ms mt mu dd wi hi gt sp ta li sr co hb _  1 (fon_ne hE hF)) rfl (Nat.le_of_ble_eq_true rfl) (by decide) (by decide) (by decide) (by decide) (fun _ _ _ hf => False.elim hf) (fun r61 h61 n61 hp61 => ?_)
            obtain ⟨z61, s61, e61, rfl, rfl, rfl⟩ := hp61
            replace hE := fon_ok e61 hE
            refine aw_if_ne (tgt := 69) dX11_readPlanes_64 (by decide) (fun c64 => ?_) (fun c64 => ?_)
            · replace hE := fif hE c64
              refine aw_aload_n dX11_readPlanes_69 rfl ?_
              refine aw_iconst (v := 3) dX11_readPlanes_70 (by decide) ?_
              refine aw_callV dX11_readPlanes_71 at_mod cvX11_99 rfl (kF_X11_b mo mw s61 ms mt mu dd wi hi gt sp ta li sr co hb _ hms 3 (fon_ne hE hF)) rfl (Nat.le_of_ble_eq_true rfl) (by decide) (by decide) (by decide) (by decide) (fun _ _ _ hf => False.elim hf) (fun r71 h71 n71 hp71 => ?_)
              obtain ⟨z71, s71, e71, rfl, rfl, rfl⟩ := hp71
              replace hE := fon_ok e71 hE
              refine aw_istore_n (lv2 := [(2, _), (1, _), (0, _)]) dX11_readPlanes_74 (by decide) rfl ?_
              refine aw_iload_n dX11_readPlanes_75 rfl ?_
              refine aw_iconst (v := 1) dX11_readPlanes_76 (by decide) ?_
              refine aw_icmp_eq (tgt := 103) dX11_readPlanes_77 (by decide) (fun c77 => ?_) (fun c77 => ?_)
              · replace hE := fit hE c77
                exact aw_lv _ (List.forall_mem_cons.mpr ⟨rfl, (List.forall_mem_cons.mpr ⟨rfl, (List.forall_mem_cons.mpr ⟨rfl, fun _ h => absurd h List.not_mem_nil⟩)⟩)⟩) (b_X11_readPlanes_103 mo mw ms mt mu dd wi hi sp sr co hb n hms  z23 z71 s61 gt ta li _ hE hF)
              · replace hE := fif hE c77
                refine aw_iload_n dX11_readPlanes_80 rfl ?_
                refine aw_iconst (v := 2) dX11_readPlanes_81 (by decide) ?_
                refine aw_icmp_eq (tgt := 103) dX11_readPlanes_82 (by decide) (fun c82 => ?_) (fun c82 => ?_)
                · replace hE := fit hE c82
                  exact aw_lv _ (List.forall_mem_cons.mpr ⟨rfl, (List.forall_mem_cons.mpr ⟨rfl, (List.forall_mem_cons.mpr ⟨rfl, fun _ h => absurd h List.not_mem_nil⟩)⟩)⟩) (b_X11_readPlanes_103 mo mw ms mt mu dd wi hi sp sr co hb n hms  z23 z71 s61 gt ta li _ hE hF)
                · replace hE := fif hE c82
                  refine aw_iload_n dX11_readPlanes_85 rfl ?_
                  refine aw_iconst (v := 4) dX11_readPlanes_86 (by decide) ?_
                  refine aw_icmp_eq (tgt := 103) dX11_readPlanes_87 (by decide) (fun c87 => ?_) (fun c87 => ?_)
                  · replace hE := fit hE c87
                    exact aw_lv _ (List.forall_mem_cons.mpr ⟨rfl, (List.forall_mem_cons.mpr ⟨rfl, (List.forall_mem_cons.mpr ⟨rfl, fun _ h => absurd h List.not_mem_nil⟩)⟩)⟩) (b_X11_readPlanes_103 mo mw ms mt mu dd wi hi sp sr co hb n hms  z23 z71 s61 gt ta li _ hE hF)
                  · replace hE := fif hE c87
                    refine aw_iload_n dX11_readPlanes_90 rfl ?_
                    refine aw_bipush (v := 8) dX11_readPlanes_91 (by decide) ?_
                    refine aw_icmp_eq (tgt := 103) dX11_readPlanes_93 (by decide) (fun c93 => ?_) (fun c93 => ?_)
                    · replace hE := fit hE c93
                      exact aw_lv _ (List.forall_mem_cons.mpr ⟨rfl, (List.forall_mem_cons.mpr ⟨rfl, (List.forall_mem_cons.mpr ⟨rfl, fun _ h => absurd h List.not_mem_nil⟩)⟩)⟩) (b_X11_readPlanes_103 mo mw ms mt mu dd wi hi sp sr co hb n hms  z23 z71 s61 gt ta li _ hE hF)
                    · replace hE := fif hE c93
                      refine aw_aload_n dX11_readPlanes_96 rfl ?_
                      refine aw_iconst (v := 2) dX11_readPlanes_97 (by decide) ?_
                      refine aw_iconst (v := 3) dX11_readPlanes_98 (by decide) ?_
                      refine aw_callV dX11_readPlanes_99 at_mod cvX11_90 rfl (kF_X11_wrong mo mw s61 ms mt mu dd wi hi gt sp ta li sr co hb _  2 3 (fon_ne hE hF)) rfl (Nat.le_of_ble_eq_true rfl) (by decide) (by decide) (by decide) (by decide) (fun _ _ _ hf => False.elim hf) (fun r99 h99 n99 hp99 => ?_)
                      obtain ⟨z99, s99, e99, rfl, rfl, rfl⟩ := hp99
                      replace hE := fon_ok e99 hE
                      obtain ⟨g102, hE⟩ := fgd hE hF
                      exact aw_zret dX11_readPlanes_102 rfl (narB g102) (Nat.zero_le _) (Nat.zero_le _) (Nat.zero_le _) (Nat.zero_le _) ⟨_, _, hE.symm, rfl, rfl, rfl⟩
            · replace hE := fit hE c64
              refine aw_iconst (v := 0) dX11_readPlanes_67 (by decide) ?_
              exact aw_zret dX11_readPlanes_68 rfl (narB (by decide)) (Nat.zero_le _) (Nat.zero_le _) (Nat.zero_le _) (Nat.zero_le _) ⟨_, _, hE.symm, rfl, rfl, rfl⟩
          · replace hE := fit hE c54
            refine aw_iconst (v := 0) dX11_readPlanes_57 (by decide) ?_
            exact aw_zret dX11_readPlanes_58 rfl (narB (by decide)) (Nat.zero_le _) (Nat.zero_le _) (Nat.zero_le _) (Nat.zero_le _) ⟨_, _, hE.symm, rfl, rfl, rfl⟩
        · replace hE := fif hE c34
          exact aw_lv _ (List.forall_mem_cons.mpr ⟨rfl, fun _ h => absurd h List.not_mem_nil⟩) (b_X11_readPlanes_37 mo mw ms mt mu dd wi hi sp sr co hb n hms  s13 gt ta li _ hE hF)
    · replace hE := fit hE c16
      refine aw_iconst (v := 0) dX11_readPlanes_19 (by decide) ?_
      exact aw_zret dX11_readPlanes_20 rfl (narB (by decide)) (Nat.zero_le _) (Nat.zero_le _) (Nat.zero_le _) (Nat.zero_le _) ⟨_, _, hE.symm, rfl, rfl, rfl⟩
  · replace hE := fit hE c6
    refine aw_iconst (v := 0) dX11_readPlanes_9 (by decide) ?_
    exact aw_zret dX11_readPlanes_10 rfl (narB (by decide)) (Nat.zero_le _) (Nat.zero_le _) (Nat.zero_le _) (Nat.zero_le _) ⟨_, _, hE.symm, rfl, rfl, rfl⟩
