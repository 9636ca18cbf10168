def P_X11_readChunks (mo : MO) (mw : MW) (ms : Nat) (mt : A) (mu : A) (dd : A) (wi : A) (hi : A) (ta : A) (li : A) (sr : A) (co : A) (hb : aH) (n : Nat) (res : Out (MR × A × A) Int32) : Option Value → aH → Nat → Prop := fun r1 h2 n2 => ∃ (a : Int32) (s : (MR × A × A)), res = fok a s ∧ r1 = some (.int a) ∧ h2 = HM mo mw s.1 ms mt mu dd wi hi s.2.1 s.2.2 ta li sr co hb ∧ n = n2
abbrev Q_X11_readChunks_36 (mo : MO) (mw : MW) (ms : Nat) (mt : A) (mu : A) (dd : A) (wi : A) (hi : A) (ta : A) (li : A) (sr : A) (co : A) (hb : aH) (n : Nat) (k : MR → A → A → Out (MR × A × A) Int32) : Prop := ∀ (mr : MR) (gt : A) (sp : A) (res : Out (MR × A × A) Int32), k mr gt sp = res → res ≠ fno → AW (fun _ _ => True) mX11_readChunks (rmD 4 0 0) 0 0 (P_X11_readChunks mo mw ms mt mu dd wi hi ta li sr co hb n res) (fun _ _ _ => False) 0 0 36 [] [] (HM mo mw mr ms mt mu dd wi hi gt sp ta li sr co hb) n
abbrev Q_X11_readChunks_193 (mo : MO) (mw : MW) (ms : Nat) (mt : A) (mu : A) (dd : A) (wi : A) (hi : A) (ta : A) (li : A) (sr : A) (co : A) (hb : aH) (n : Nat) (k : MR → A → A → Out (MR × A × A) Int32) : Prop := ∀ (mr : MR) (gt : A) (sp : A) (res : Out (MR × A × A) Int32), k mr gt sp = res → res ≠ fno → AW (fun _ _ => True) mX11_readChunks (rmD 4 0 0) 0 0 (P_X11_readChunks mo mw ms mt mu dd wi hi ta li sr co hb n res) (fun _ _ _ => False) 0 0 193 [(0, .ref 31)] [] (HM mo mw mr ms mt mu dd wi hi gt sp ta li sr co hb) n
abbrev Q_X11_readChunks_261 (mo : MO) (mw : MW) (ms : Nat) (mt : A) (mu : A) (dd : A) (wi : A) (hi : A) (ta : A) (li : A) (sr : A) (co : A) (hb : aH) (n : Nat) (k : Int32 → MR → A → A → Out (MR × A × A) Int32) : Prop := ∀ (v5 : Int32) (mr : MR) (gt : A) (sp : A) (res : Out (MR × A × A) Int32), k v5 mr gt sp = res → res ≠ fno → AW (fun _ _ => True) mX11_readChunks (rmD 4 0 0) 0 0 (P_X11_readChunks mo mw ms mt mu dd wi hi ta li sr co hb n res) (fun _ _ _ => False) 0 0 261 [(0, .ref 31), (5, .int v5)] [] (HM mo mw mr ms mt mu dd wi hi gt sp ta li sr co hb) n
abbrev Q_X11_readChunks_304 (mo : MO) (mw : MW) (ms : Nat) (mt : A) (mu : A) (dd : A) (wi : A) (hi : A) (ta : A) (li : A) (sr : A) (co : A) (hb : aH) (n : Nat) (k : Int32 → Int32 → Int32 → Int32 → MR → A → A → Out (MR × A × A) Int32) : Prop := ∀ (v5 : Int32) (v6 : Int32) (v7 : Int32) (v8 : Int32) (mr : MR) (gt : A) (sp : A) (res : Out (MR × A × A) Int32), k v5 v6 v7 v8 mr gt sp = res → res ≠ fno → AW (fun _ _ => True) mX11_readChunks (rmD 4 0 0) 0 0 (P_X11_readChunks mo mw ms mt mu dd wi hi ta li sr co hb n res) (fun _ _ _ => False) 0 0 304 [(0, .ref 31), (5, .int v5), (6, .int v6), (7, .int v7), (8, .int v8)] [] (HM mo mw mr ms mt mu dd wi hi gt sp ta li sr co hb) n
abbrev Q_X11_readChunks_430 (mo : MO) (mw : MW) (ms : Nat) (mt : A) (mu : A) (dd : A) (wi : A) (hi : A) (ta : A) (li : A) (sr : A) (co : A) (hb : aH) (n : Nat) (k : Int32 → Int32 → Int32 → Int32 → Int32 → Int32 → Int32 → Int32 → Int32 → MR → A → A → Out (MR × A × A) Int32) : Prop := ∀ (v5 : Int32) (v8 : Int32) (v10 : Int32) (v11 : Int32) (v12 : Int32) (t0 : Int32) (t1 : Int32) (t2 : Int32) (t3 : Int32) (mr : MR) (gt : A) (sp : A) (res : Out (MR × A × A) Int32), k v5 v8 v10 v11 v12 t0 t1 t2 t3 mr gt sp = res → res ≠ fno → AW (fun _ _ => True) mX11_readChunks (rmD 4 0 0) 0 0 (P_X11_readChunks mo mw ms mt mu dd wi hi ta li sr co hb n res) (fun _ _ _ => False) 0 0 430 [(0, .ref 31), (5, .int v5), (8, .int v8), (10, .int v10), (11, .int v11), (12, .int v12)] [.int t0, .int t1, .int t2, .int t3] (HM mo mw mr ms mt mu dd wi hi gt sp ta li sr co hb) n
abbrev Q_X11_readChunks_631 (mo : MO) (mw : MW) (ms : Nat) (mt : A) (mu : A) (dd : A) (wi : A) (hi : A) (ta : A) (li : A) (sr : A) (co : A) (hb : aH) (n : Nat) (k : Int32 → Int32 → Int32 → Int32 → Int32 → MR → A → A → Out (MR × A × A) Int32) : Prop := ∀ (v5 : Int32) (v6 : Int32) (v8 : Int32) (v10 : Int32) (v11 : Int32) (mr : MR) (gt : A) (sp : A) (res : Out (MR × A × A) Int32), k v5 v6 v8 v10 v11 mr gt sp = res → res ≠ fno → AW (fun _ _ => True) mX11_readChunks (rmD 4 0 0) 0 0 (P_X11_readChunks mo mw ms mt mu dd wi hi ta li sr co hb n res) (fun _ _ _ => False) 0 0 631 [(0, .ref 31), (5, .int v5), (6, .int v6), (8, .int v8), (10, .int v10), (11, .int v11)] [] (HM mo mw mr ms mt mu dd wi hi gt sp ta li sr co hb) n
abbrev Q_X11_readChunks_648 (mo : MO) (mw : MW) (ms : Nat) (mt : A) (mu : A) (dd : A) (wi : A) (hi : A) (ta : A) (li : A) (sr : A) (co : A) (hb : aH) (n : Nat) (k : Int32 → Int32 → Int32 → Int32 → Int32 → Int32 → MR → A → A → Out (MR × A × A) Int32) : Prop := ∀ (v5 : Int32) (v6 : Int32) (v7 : Int32) (v8 : Int32) (v11 : Int32) (v12 : Int32) (mr : MR) (gt : A) (sp : A) (res : Out (MR × A × A) Int32), k v5 v6 v7 v8 v11 v12 mr gt sp = res → res ≠ fno → AW (fun _ _ => True) mX11_readChunks (rmD 4 0 0) 0 0 (P_X11_readChunks mo mw ms mt mu dd wi hi ta li sr co hb n res) (fun _ _ _ => False) 0 0 648 [(0, .ref 31), (5, .int v5), (6, .int v6), (7, .int v7), (8, .int v8), (11, .int v11), (12, .int v12)] [] (HM mo mw mr ms mt mu dd wi hi gt sp ta li sr co hb) n
abbrev Q_X11_readChunks_691 (mo : MO) (mw : MW) (ms : Nat) (mt : A) (mu : A) (dd : A) (wi : A) (hi : A) (ta : A) (li : A) (sr : A) (co : A) (hb : aH) (n : Nat) (k : Int32 → MR → A → A → Out (MR × A × A) Int32) : Prop := ∀ (v9 : Int32) (mr : MR) (gt : A) (sp : A) (res : Out (MR × A × A) Int32), k v9 mr gt sp = res → res ≠ fno → AW (fun _ _ => True) mX11_readChunks (rmD 4 0 0) 0 0 (P_X11_readChunks mo mw ms mt mu dd wi hi ta li sr co hb n res) (fun _ _ _ => False) 0 0 691 [(0, .ref 31), (9, .int v9)] [] (HM mo mw mr ms mt mu dd wi hi gt sp ta li sr co hb) n
abbrev Q_X11_readChunks_711 (mo : MO) (mw : MW) (ms : Nat) (mt : A) (mu : A) (dd : A) (wi : A) (hi : A) (ta : A) (li : A) (sr : A) (co : A) (hb : aH) (n : Nat) (k : Int32 → Int32 → MR → A → A → Out (MR × A × A) Int32) : Prop := ∀ (v9 : Int32) (t0 : Int32) (mr : MR) (gt : A) (sp : A) (res : Out (MR × A × A) Int32), k v9 t0 mr gt sp = res → res ≠ fno → AW (fun _ _ => True) mX11_readChunks (rmD 4 0 0) 0 0 (P_X11_readChunks mo mw ms mt mu dd wi hi ta li sr co hb n res) (fun _ _ _ => False) 0 0 711 [(0, .ref 31), (9, .int v9)] [.int t0, .ref 31] (HM mo mw mr ms mt mu dd wi hi gt sp ta li sr co hb) n
def F_X11_readChunks_711 (sb : A) (k691 : Int32 → MR → A → A → Out (MR × A × A) Int32) (v9 : Int32) (t0 : Int32) (mr : MR) (gt : A) (sp : A) : Out (MR × A × A) Int32 := fon (F_X11_sign t0 sb mr) (fun z711 s711 => if z711 = 0 then (fok (0 : Int32) (s711, gt, sp)) else (k691 (v9 + 1) s711 gt sp)) (fun _ _ => fno)
set_option maxHeartbeats 1000000 in
set_option maxRecDepth 100000 in
theorem b_X11_readChunks_711 (mo : MO) (mw : MW) (ms : Nat) (mt : A) (mu : A) (dd : A) (wi : A) (hi : A) (ta : A) (li : A) (sr : A) (co : A) (hb : aH) (n : Nat) (hms : isMS ms) (k691 : Int32 → MR → A → A → Out (MR × A × A) Int32) (hk691 : Q_X11_readChunks_691 mo mw ms mt mu dd wi hi ta li sr co hb n k691) : Q_X11_readChunks_711 mo mw ms mt mu dd wi hi ta li sr co hb n (F_X11_readChunks_711 (srcB ms mt mu) k691) := by
  intro v9 t0 mr gt sp res hE hF
  unfold F_X11_readChunks_711 at hE
  refine aw_callV dX11_readChunks_711 at_mod cvX11_119 rfl (kF_X11_sign mo mw mr ms mt mu dd wi hi gt sp ta li sr co hb _ hms t0 (fon_ne hE hF)) rfl (Nat.le_of_ble_eq_true rfl) (by decide) (by decide) (by decide) (by decide) (fun _ _ _ hf => False.elim hf) (fun r711 h711 n711 hp711 => ?_)
  obtain ⟨z711, s711, e711, rfl, rfl, rfl⟩ := hp711
  replace hE := fon_ok e711 hE
  refine aw_if_ne (tgt := 719) dX11_readChunks_714 (by decide) (fun c714 => ?_) (fun c714 => ?_)
  · replace hE := fif hE c714
    refine aw_iinc (v := (v9 + 1)) (lv2 := [(9, _), (0, _)]) dX11_readChunks_719 rfl (incE (by decide)) (by decide) rfl ?_
    refine aw_goto (tgt := 691) dX11_readChunks_722 (by decide) ?_
    exact aw_lv _ (List.forall_mem_cons.mpr ⟨rfl, (List.forall_mem_cons.mpr ⟨rfl, fun _ h => absurd h List.not_mem_nil⟩)⟩) (hk691 (v9 + 1) s711 gt sp _ hE hF)
  · replace hE := fit hE c714
    refine aw_iconst (v := 0) dX11_readChunks_717 (by decide) ?_
    exact aw_zret dX11_readChunks_718 rfl (narB (by decide)) (Nat.zero_le _) (Nat.zero_le _) (Nat.zero_le _) (Nat.zero_le _) ⟨_, _, hE.symm, rfl, rfl, rfl⟩
def F_X11_readChunks_691 (sb : A) (k691 : Int32 → MR → A → A → Out (MR × A × A) Int32) (v9 : Int32) (mr : MR) (gt : A) (sp : A) : Out (MR × A × A) Int32 := if 8 ≤ v9 then (fon (F_X11_closes mr) (fun z726 s726 => if isB z726 then (fok (z726 : Int32) (s726, gt, sp)) else fno) (fun _ _ => fno)) else (if v9 = 7 then (F_X11_readChunks_711 sb k691 v9 (1 : Int32) mr gt sp) else (F_X11_readChunks_711 sb k691 v9 (0 : Int32) mr gt sp))
set_option maxHeartbeats 1000000 in
set_option maxRecDepth 100000 in
theorem b_X11_readChunks_691 (mo : MO) (mw : MW) (ms : Nat) (mt : A) (mu : A) (dd : A) (wi : A) (hi : A) (ta : A) (li : A) (sr : A) (co : A) (hb : aH) (n : Nat) (hms : isMS ms) (k691 : Int32 → MR → A → A → Out (MR × A × A) Int32) (hk691 : Q_X11_readChunks_691 mo mw ms mt mu dd wi hi ta li sr co hb n k691) : Q_X11_readChunks_691 mo mw ms mt mu dd wi hi ta li sr co hb n (F_X11_readChunks_691 (srcB ms mt mu) k691) := by
  intro v9 mr gt sp res hE hF
  unfold F_X11_readChunks_691 at hE
  refine aw_iload dX11_readChunks_691 rfl ?_
  refine aw_bipush (v := 8) dX11_readChunks_693 (by decide) ?_
  refine aw_icmp_ge (tgt := 725) dX11_readChunks_695 (by decide) (fun c695 => ?_) (fun c695 => ?_)
  · replace hE := fit hE c695
    refine aw_aload_n dX11_readChunks_725 rfl ?_
    refine aw_callV dX11_readChunks_726 at_mod cvX11_145 rfl (kF_X11_closes mo mw mr ms mt mu dd wi hi gt sp ta li sr co hb _   (fon_ne hE hF)) rfl (Nat.le_of_ble_eq_true rfl) (by decide) (by decide) (by decide) (by decide) (fun _ _ _ hf => False.elim hf) (fun r726 h726 n726 hp726 => ?_)
    obtain ⟨z726, s726, e726, rfl, rfl, rfl⟩ := hp726
    replace hE := fon_ok e726 hE
    obtain ⟨g729, hE⟩ := fgd hE hF
    exact aw_zret dX11_readChunks_729 rfl (narB g729) (Nat.zero_le _) (Nat.zero_le _) (Nat.zero_le _) (Nat.zero_le _) ⟨_, _, hE.symm, rfl, rfl, rfl⟩
  · replace hE := fif hE c695
    refine aw_aload_n dX11_readChunks_698 rfl ?_
    refine aw_iload dX11_readChunks_699 rfl ?_
    refine aw_bipush (v := 7) dX11_readChunks_701 (by decide) ?_
    refine aw_icmp_ne (tgt := 710) dX11_readChunks_703 (by decide) (fun c703 => ?_) (fun c703 => ?_)
    · replace hE := fif hE c703
      refine aw_iconst (v := 0) dX11_readChunks_710 (by decide) ?_
      exact aw_lv _ (List.forall_mem_cons.mpr ⟨rfl, (List.forall_mem_cons.mpr ⟨rfl, fun _ h => absurd h List.not_mem_nil⟩)⟩) (b_X11_readChunks_711 mo mw ms mt mu dd wi hi ta li sr co hb n hms k691 hk691 v9 (0 : Int32) mr gt sp _ hE hF)
    · replace hE := fit hE c703
      refine aw_iconst (v := 1) dX11_readChunks_706 (by decide) ?_
      refine aw_goto (tgt := 711) dX11_readChunks_707 (by decide) ?_
      exact aw_lv _ (List.forall_mem_cons.mpr ⟨rfl, (List.forall_mem_cons.mpr ⟨rfl, fun _ h => absurd h List.not_mem_nil⟩)⟩) (b_X11_readChunks_711 mo mw ms mt mu dd wi hi ta li sr co hb n hms k691 hk691 v9 (1 : Int32) mr gt sp _ hE hF)
def F_X11_readChunks_648 (sb : A) (k304 : Int32 → Int32 → Int32 → Int32 → MR → A → A → Out (MR × A × A) Int32) (k648 : Int32 → Int32 → Int32 → Int32 → Int32 → Int32 → MR → A → A → Out (MR × A × A) Int32) (v5 : Int32) (v6 : Int32) (v7 : Int32) (v8 : Int32) (v11 : Int32) (v12 : Int32) (mr : MR) (gt : A) (sp : A) : Out (MR × A × A) Int32 := if v11 ≤ v12 then (if inb (F_X11_spot v6) 64 then (k304 v5 v6 v7 v8 mr gt (upd sp (Int32.toNatClampNeg (F_X11_spot v6)) v6)) else fno) else (if inb v8 4096 then (k648 v5 v6 v7 (v8 + 1) v11 (v12 + 1) mr (upd gt (Int32.toNatClampNeg v8) v6) sp) else fno)
set_option maxHeartbeats 1000000 in
set_option maxRecDepth 100000 in
theorem b_X11_readChunks_648 (mo : MO) (mw : MW) (ms : Nat) (mt : A) (mu : A) (dd : A) (wi : A) (hi : A) (ta : A) (li : A) (sr : A) (co : A) (hb : aH) (n : Nat) (hms : isMS ms) (k304 : Int32 → Int32 → Int32 → Int32 → MR → A → A → Out (MR × A × A) Int32) (hk304 : Q_X11_readChunks_304 mo mw ms mt mu dd wi hi ta li sr co hb n k304) (k648 : Int32 → Int32 → Int32 → Int32 → Int32 → Int32 → MR → A → A → Out (MR × A × A) Int32) (hk648 : Q_X11_readChunks_648 mo mw ms mt mu dd wi hi ta li sr co hb n k648) : Q_X11_readChunks_648 mo mw ms mt mu dd wi hi ta li sr co hb n (F_X11_readChunks_648 (srcB ms mt mu) k304 k648) := by
  intro v5 v6 v7 v8 v11 v12 mr gt sp res hE hF
  unfold F_X11_readChunks_648 at hE
  refine aw_iload dX11_readChunks_648 rfl ?_
  refine aw_iload dX11_readChunks_650 rfl ?_
  refine aw_icmp_ge (tgt := 673) dX11_readChunks_652 (by decide) (fun c652 => ?_) (fun c652 => ?_)
  · replace hE := fit hE c652
    refine aw_aload_n dX11_readChunks_673 rfl ?_
    refine aw_getf (v := .ref 38) dX11_readChunks_674 flX11_46_10 at_mod rfl ?_
    refine aw_iload dX11_readChunks_677 rfl ?_
    refine aw_callS dX11_readChunks_679  csX11_142 rfl (kF_X11_spot _ _ v6) rfl (Nat.le_of_ble_eq_true rfl) (by decide) (by decide) (by decide) (by decide) (fun _ _ _ hf => False.elim hf) (fun r679 h679 n679 hp679 => ?_)
    obtain ⟨rfl, rfl, rfl⟩ := hp679
    refine aw_iload dX11_readChunks_682 rfl ?_
    obtain ⟨g684, hE⟩ := fgd hE hF
    refine aw_iast (f := sp) dX11_readChunks_684 at_mspots (vp_in_iff.mpr g684) ?_
    refine aw_eqh (h2 := HM mo mw mr ms mt mu dd wi hi gt (upd sp (Int32.toNatClampNeg (F_X11_spot v6)) v6) ta li sr co hb) up_mspots ?_
    refine aw_goto (tgt := 304) dX11_readChunks_685 (by decide) ?_
    exact aw_lv _ (List.forall_mem_cons.mpr ⟨rfl, (List.forall_mem_cons.mpr ⟨rfl, (List.forall_mem_cons.mpr ⟨rfl, (List.forall_mem_cons.mpr ⟨rfl, (List.forall_mem_cons.mpr ⟨rfl, fun _ h => absurd h List.not_mem_nil⟩)⟩)⟩)⟩)⟩) (hk304 v5 v6 v7 v8 mr gt (upd sp (Int32.toNatClampNeg (F_X11_spot v6)) v6) _ hE hF)
  · replace hE := fif hE c652
    refine aw_aload_n dX11_readChunks_655 rfl ?_
    refine aw_getf (v := .ref 37) dX11_readChunks_656 flX11_27_10 at_mod rfl ?_
    refine aw_iload dX11_readChunks_659 rfl ?_
    refine aw_iload dX11_readChunks_661 rfl ?_
    obtain ⟨g663, hE⟩ := fgd hE hF
    refine aw_iast (f := gt) dX11_readChunks_663 at_mgot (vp_in_iff.mpr g663) ?_
    refine aw_eqh (h2 := HM mo mw mr ms mt mu dd wi hi (upd gt (Int32.toNatClampNeg v8) v6) sp ta li sr co hb) up_mgot ?_
    refine aw_iinc (v := (v8 + 1)) (lv2 := [(8, _), (0, _), (5, _), (6, _), (7, _), (11, _), (12, _)]) dX11_readChunks_664 rfl (incE (by decide)) (by decide) rfl ?_
    refine aw_iinc (v := (v12 + 1)) (lv2 := [(12, _), (8, _), (0, _), (5, _), (6, _), (7, _), (11, _)]) dX11_readChunks_667 rfl (incE (by decide)) (by decide) rfl ?_
    refine aw_goto (tgt := 648) dX11_readChunks_670 (by decide) ?_
    exact aw_lv _ (List.forall_mem_cons.mpr ⟨rfl, (List.forall_mem_cons.mpr ⟨rfl, (List.forall_mem_cons.mpr ⟨rfl, (List.forall_mem_cons.mpr ⟨rfl, (List.forall_mem_cons.mpr ⟨rfl, (List.forall_mem_cons.mpr ⟨rfl, (List.forall_mem_cons.mpr ⟨rfl, fun _ h => absurd h List.not_mem_nil⟩)⟩)⟩)⟩)⟩)⟩)⟩) (hk648 v5 v6 v7 (v8 + 1) v11 (v12 + 1) mr (upd gt (Int32.toNatClampNeg v8) v6) sp _ hE hF)
def F_X11_readChunks_631 (sb : A) (k304 : Int32 → Int32 → Int32 → Int32 → MR → A → A → Out (MR × A × A) Int32) (v5 : Int32) (v6 : Int32) (v8 : Int32) (v10 : Int32) (v11 : Int32) (mr : MR) (gt : A) (sp : A) : Out (MR × A × A) Int32 := lp (fun _ _ _ _ _ _ _ _ _ => fno) (F_X11_readChunks_648 sb k304) FU v5 v6 v10 v8 v11 (0 : Int32) ((mr_size mr), (mr_pos mr), (mr_kind mr), (mr_whr mr), (mr_gw mr), (mr_gh mr), (mr_one mr), (mr_two mr), ((mr_three mr) + 1)) gt sp
set_option maxHeartbeats 1000000 in
set_option maxRecDepth 100000 in
theorem b_X11_readChunks_631 (mo : MO) (mw : MW) (ms : Nat) (mt : A) (mu : A) (dd : A) (wi : A) (hi : A) (ta : A) (li : A) (sr : A) (co : A) (hb : aH) (n : Nat) (hms : isMS ms) (k304 : Int32 → Int32 → Int32 → Int32 → MR → A → A → Out (MR × A × A) Int32) (hk304 : Q_X11_readChunks_304 mo mw ms mt mu dd wi hi ta li sr co hb n k304) : Q_X11_readChunks_631 mo mw ms mt mu dd wi hi ta li sr co hb n (F_X11_readChunks_631 (srcB ms mt mu) k304) := by
  intro v5 v6 v8 v10 v11 mr gt sp res hE hF
  unfold F_X11_readChunks_631 at hE
  refine aw_iload dX11_readChunks_631 rfl ?_
  refine aw_istore (lv2 := [(7, _), (0, _), (5, _), (6, _), (8, _), (10, _), (11, _)]) dX11_readChunks_633 (by decide) rfl ?_
  refine aw_aload_n dX11_readChunks_635 rfl ?_
  refine aw_dup dX11_readChunks_636 rfl ?_
  refine aw_getf (v := .int (mr_three mr)) dX11_readChunks_637 flX11_136_10 at_mod rfl ?_
  refine aw_iconst (v := 1) dX11_readChunks_640 (by decide) ?_
  refine aw_iadd dX11_readChunks_641 ?_
  refine aw_putf dX11_readChunks_642 ptX11_136_10 at_mod (Nat.le_of_ble_eq_true rfl) ⟨rfl, rfl⟩ ?_
  refine aw_eqh (h2 := HM mo mw ((mr_size mr), (mr_pos mr), (mr_kind mr), (mr_whr mr), (mr_gw mr), (mr_gh mr), (mr_one mr), (mr_two mr), ((mr_three mr) + 1)) ms mt mu dd wi hi gt sp ta li sr co hb) up_mod ?_
  refine aw_iconst (v := 0) dX11_readChunks_645 (by decide) ?_
  refine aw_istore (lv2 := [(12, _), (7, _), (0, _), (5, _), (6, _), (8, _), (10, _), (11, _)]) dX11_readChunks_646 (by decide) rfl ?_
  exact aw_lv _ (List.forall_mem_cons.mpr ⟨rfl, (List.forall_mem_cons.mpr ⟨rfl, (List.forall_mem_cons.mpr ⟨rfl, (List.forall_mem_cons.mpr ⟨rfl, (List.forall_mem_cons.mpr ⟨rfl, (List.forall_mem_cons.mpr ⟨rfl, (List.forall_mem_cons.mpr ⟨rfl, fun _ h => absurd h List.not_mem_nil⟩)⟩)⟩)⟩)⟩)⟩)⟩) (lp_ind (Q_X11_readChunks_648 mo mw ms mt mu dd wi hi ta li sr co hb n) (fun _ _ _ _ _ _ _ _ _ res hq hF => (hF hq.symm).elim) (fun k hk => b_X11_readChunks_648 mo mw ms mt mu dd wi hi ta li sr co hb n hms k304 hk304 k hk) FU v5 v6 v10 v8 v11 (0 : Int32) ((mr_size mr), (mr_pos mr), (mr_kind mr), (mr_whr mr), (mr_gw mr), (mr_gh mr), (mr_one mr), (mr_two mr), ((mr_three mr) + 1)) gt sp _ hE hF)
def F_X11_readChunks_430 (sb : A) (k304 : Int32 → Int32 → Int32 → Int32 → MR → A → A → Out (MR × A × A) Int32) (v5 : Int32) (v8 : Int32) (v10 : Int32) (v11 : Int32) (v12 : Int32) (t0 : Int32) (t1 : Int32) (t2 : Int32) (t3 : Int32) (mr : MR) (gt : A) (sp : A) : Out (MR × A × A) Int32 := F_X11_readChunks_631 sb k304 v5 (F_X11_mix t3 t2 t1 t0) v8 v10 v11 ((mr_size mr), ((mr_pos mr) + v12), (mr_kind mr), (mr_whr mr), (mr_gw mr), (mr_gh mr), (mr_one mr), (mr_two mr), (mr_three mr)) gt sp
set_option maxHeartbeats 1000000 in
set_option maxRecDepth 100000 in
theorem b_X11_readChunks_430 (mo : MO) (mw : MW) (ms : Nat) (mt : A) (mu : A) (dd : A) (wi : A) (hi : A) (ta : A) (li : A) (sr : A) (co : A) (hb : aH) (n : Nat) (hms : isMS ms) (k304 : Int32 → Int32 → Int32 → Int32 → MR → A → A → Out (MR × A × A) Int32) (hk304 : Q_X11_readChunks_304 mo mw ms mt mu dd wi hi ta li sr co hb n k304) : Q_X11_readChunks_430 mo mw ms mt mu dd wi hi ta li sr co hb n (F_X11_readChunks_430 (srcB ms mt mu) k304) := by
  intro v5 v8 v10 v11 v12 t0 t1 t2 t3 mr gt sp res hE hF
  unfold F_X11_readChunks_430 at hE
  refine aw_callS dX11_readChunks_430  csX11_115 rfl (kF_X11_mix _ _ t3 t2 t1 t0) rfl (Nat.le_of_ble_eq_true rfl) (by decide) (by decide) (by decide) (by decide) (fun _ _ _ hf => False.elim hf) (fun r430 h430 n430 hp430 => ?_)
  obtain ⟨rfl, rfl, rfl⟩ := hp430
  refine aw_istore (lv2 := [(6, _), (0, _), (5, _), (8, _), (10, _), (11, _), (12, _)]) dX11_readChunks_433 (by decide) rfl ?_
  refine aw_aload_n dX11_readChunks_435 rfl ?_
  refine aw_dup dX11_readChunks_436 rfl ?_
  refine aw_getf (v := .int (mr_pos mr)) dX11_readChunks_437 flX11_84_10 at_mod rfl ?_
  refine aw_iload dX11_readChunks_440 rfl ?_
  refine aw_iadd dX11_readChunks_442 ?_
  refine aw_putf dX11_readChunks_443 ptX11_84_10 at_mod (Nat.le_of_ble_eq_true rfl) ⟨rfl, rfl⟩ ?_
  refine aw_eqh (h2 := HM mo mw ((mr_size mr), ((mr_pos mr) + v12), (mr_kind mr), (mr_whr mr), (mr_gw mr), (mr_gh mr), (mr_one mr), (mr_two mr), (mr_three mr)) ms mt mu dd wi hi gt sp ta li sr co hb) up_mod ?_
  refine aw_goto (tgt := 631) dX11_readChunks_446 (by decide) ?_
  exact aw_lv _ (List.forall_mem_cons.mpr ⟨rfl, (List.forall_mem_cons.mpr ⟨rfl, (List.forall_mem_cons.mpr ⟨rfl, (List.forall_mem_cons.mpr ⟨rfl, (List.forall_mem_cons.mpr ⟨rfl, (List.forall_mem_cons.mpr ⟨rfl, fun _ h => absurd h List.not_mem_nil⟩)⟩)⟩)⟩)⟩)⟩) (b_X11_readChunks_631 mo mw ms mt mu dd wi hi ta li sr co hb n hms k304 hk304 v5 (F_X11_mix t3 t2 t1 t0) v8 v10 v11 ((mr_size mr), ((mr_pos mr) + v12), (mr_kind mr), (mr_whr mr), (mr_gw mr), (mr_gh mr), (mr_one mr), (mr_two mr), (mr_three mr)) gt sp _ hE hF)
def F_X11_readChunks_304 (sb : A) (k304 : Int32 → Int32 → Int32 → Int32 → MR → A → A → Out (MR × A × A) Int32) (v5 : Int32) (v6 : Int32) (v7 : Int32) (v8 : Int32) (mr : MR) (gt : A) (sp : A) : Out (MR × A × A) Int32 := if v5 ≤ v8 then (lp (fun _ _ _ _ => fno) (F_X11_readChunks_691 sb) FU (0 : Int32) mr gt sp) else (fon (F_X11_want 1 mr) (fun z313 s313 => if z313 = 0 then (fok (0 : Int32) (s313, gt, sp)) else (fon (F_X11_b (mr_pos s313) sb) (fun z332 s332 => if z332 < 254 then (if 64 ≤ z332 then (if 128 ≤ z332 then (if 192 ≤ z332 then (if ((z332 &&& 63) + 1) ≤ (v5 - v8) then (F_X11_readChunks_631 sb k304 v5 v6 v8 z332 ((z332 &&& 63) + 1) ((mr_size s313), ((mr_pos s313) + 1), (mr_kind s313), (mr_whr s313), (mr_gw s313), (mr_gh s313), (mr_one s313), (mr_two s313), (mr_three s313)) gt sp) else (fon (F_X11_wrong 4 (mr_pos s313) ((mr_size s313), ((mr_pos s313) + 1), (mr_kind s313), (mr_whr s313), (mr_gw s313), (mr_gh s313), (mr_one s313), (mr_two s313), (mr_three s313))) (fun z627 s627 => if isB z627 then (fok (z627 : Int32) (s627, gt, sp)) else fno) (fun _ _ => fno))) else (fon (F_X11_want 1 ((mr_size s313), ((mr_pos s313) + 1), (mr_kind s313), (mr_whr s313), (mr_gw s313), (mr_gh s313), (mr_one s313), (mr_two s313), (mr_three s313))) (fun z533 s533 => if z533 = 0 then (fok (0 : Int32) (s533, gt, sp)) else (fon (F_X11_b (mr_pos s533) sb) (fun z546 s546 => F_X11_readChunks_631 sb k304 v5 (F_X11_more v6 ((((z332 &&& 63) - 32) + (z546 >>> ((4 : Int32) &&& 31))) - 8) ((z332 &&& 63) - 32) ((((z332 &&& 63) - 32) + (z546 &&& 15)) - 8)) v8 z332 (1 : Int32) ((mr_size s533), ((mr_pos s533) + 1), (mr_kind s533), (mr_whr s533), (mr_gw s533), (mr_gh s533), (mr_one s533), (mr_two s533), (mr_three s533)) gt sp) (fun _ _ => fno))) (fun _ _ => fno))) else (F_X11_readChunks_631 sb k304 v5 (F_X11_more v6 (((z332 >>> ((4 : Int32) &&& 31)) &&& 3) - 2) (((z332 >>> ((2 : Int32) &&& 31)) &&& 3) - 2) ((z332 &&& 3) - 2)) v8 z332 (1 : Int32) ((mr_size s313), ((mr_pos s313) + 1), (mr_kind s313), (mr_whr s313), (mr_gw s313), (mr_gh s313), (mr_one s313), (mr_two s313), (mr_three s313)) gt sp)) else (if v7 = z332 then (fon (F_X11_wrong 4 (mr_pos s313) ((mr_size s313), ((mr_pos s313) + 1), (mr_kind s313), (mr_whr s313), (mr_gw s313), (mr_gh s313), (mr_one s313), (mr_two s313), (mr_three s313))) (fun z467 s467 => if isB z467 then (fok (z467 : Int32) (s467, gt, sp)) else fno) (fun _ _ => fno)) else (if inb z332 64 then (F_X11_readChunks_631 sb k304 v5 (sp (Int32.toNatClampNeg z332)) v8 z332 (1 : Int32) ((mr_size s313), ((mr_pos s313) + 1), (mr_kind s313), (mr_whr s313), (mr_gw s313), (mr_gh s313), (mr_one s313), (mr_two s313), (mr_three s313)) gt sp) else fno))) else (fon (F_X11_want (z332 - 251) ((mr_size s313), ((mr_pos s313) + 1), (mr_kind s313), (mr_whr s313), (mr_gw s313), (mr_gh s313), (mr_one s313), (mr_two s313), (mr_three s313))) (fun z369 s369 => if z369 = 0 then (fok (0 : Int32) (s369, gt, sp)) else (fon (F_X11_b (mr_pos s369) sb) (fun z382 s382 => fon (F_X11_b ((mr_pos s369) + 1) sb) (fun z392 s392 => fon (F_X11_b ((mr_pos s369) + 2) sb) (fun z402 s402 => if (z332 - 251) = 4 then (fon (F_X11_b ((mr_pos s369) + 3) sb) (fun z418 s418 => F_X11_readChunks_430 sb k304 v5 v8 z332 (1 : Int32) (z332 - 251) z418 z402 z392 z382 s369 gt sp) (fun _ _ => fno)) else (F_X11_readChunks_430 sb k304 v5 v8 z332 (1 : Int32) (z332 - 251) (v6 &&& 255) z402 z392 z382 s369 gt sp)) (fun _ _ => fno)) (fun _ _ => fno)) (fun _ _ => fno))) (fun _ _ => fno))) (fun _ _ => fno))) (fun _ _ => fno))
set_option maxHeartbeats 1000000 in
set_option maxRecDepth 100000 in
theorem b_X11_readChunks_304 (mo : MO) (mw : MW) (ms : Nat) (mt : A) (mu : A) (dd : A) (wi : A) (hi : A) (ta : A) (li : A) (sr : A) (co : A) (hb : aH) (n : Nat) (hms : isMS ms) (k304 : Int32 → Int32 → Int32 → Int32 → MR → A → A → Out (MR × A × A) Int32) (hk304 : Q_X11_readChunks_304 mo mw ms mt mu dd wi hi ta li sr co hb n k304) : Q_X11_readChunks_304 mo mw ms mt mu dd wi hi ta li sr co hb n (F_X11_readChunks_304 (srcB ms mt mu) k304) := by
  intro v5 v6 v7 v8 mr gt sp res hE hF
  unfold F_X11_readChunks_304 at hE
  refine aw_iload dX11_readChunks_304 rfl ?_
  refine aw_iload dX11_readChunks_306 rfl ?_
  refine aw_icmp_ge (tgt := 688) dX11_readChunks_308 (by decide) (fun c308 => ?_) (fun c308 => ?_)
  · replace hE := fit hE c308
    refine aw_iconst (v := 0) dX11_readChunks_688 (by decide) ?_
    refine aw_istore (lv2 := [(9, _), (0, _), (5, _), (6, _), (7, _), (8, _)]) dX11_readChunks_689 (by decide) rfl ?_
    exact aw_lv _ (List.forall_mem_cons.mpr ⟨rfl, (List.forall_mem_cons.mpr ⟨rfl, fun _ h => absurd h List.not_mem_nil⟩)⟩) (lp_ind (Q_X11_readChunks_691 mo mw ms mt mu dd wi hi ta li sr co hb n) (fun _ _ _ _ res hq hF => (hF hq.symm).elim) (fun k hk => b_X11_readChunks_691 mo mw ms mt mu dd wi hi ta li sr co hb n hms  k hk) FU (0 : Int32) mr gt sp _ hE hF)
  · replace hE := fif hE c308
    refine aw_aload_n dX11_readChunks_311 rfl ?_
    refine aw_iconst (v := 1) dX11_readChunks_312 (by decide) ?_
    refine aw_callV dX11_readChunks_313 at_mod cvX11_103 rfl (kF_X11_want mo mw mr ms mt mu dd wi hi gt sp ta li sr co hb _  1 (fon_ne hE hF)) rfl (Nat.le_of_ble_eq_true rfl) (by decide) (by decide) (by decide) (by decide) (fun _ _ _ hf => False.elim hf) (fun r313 h313 n313 hp313 => ?_)
    obtain ⟨z313, s313, e313, rfl, rfl, rfl⟩ := hp313
    replace hE := fon_ok e313 hE
    refine aw_if_ne (tgt := 321) dX11_readChunks_316 (by decide) (fun c316 => ?_) (fun c316 => ?_)
    · replace hE := fif hE c316
      refine aw_aload_n dX11_readChunks_321 rfl ?_
      refine aw_getf (v := .int (mr_pos s313)) dX11_readChunks_322 flX11_84_10 at_mod rfl ?_
      refine aw_istore (lv2 := [(9, _), (0, _), (5, _), (6, _), (7, _), (8, _)]) dX11_readChunks_325 (by decide) rfl ?_
      refine aw_aload_n dX11_readChunks_327 rfl ?_
      refine aw_aload_n dX11_readChunks_328 rfl ?_
      refine aw_getf (v := .int (mr_pos s313)) dX11_readChunks_329 flX11_84_10 at_mod rfl ?_
      refine aw_callV dX11_readChunks_332 at_mod cvX11_99 rfl (kF_X11_b mo mw s313 ms mt mu dd wi hi gt sp ta li sr co hb _ hms (mr_pos s313) (fon_ne hE hF)) rfl (Nat.le_of_ble_eq_true rfl) (by decide) (by decide) (by decide) (by decide) (fun _ _ _ hf => False.elim hf) (fun r332 h332 n332 hp332 => ?_)
      obtain ⟨z332, s332, e332, rfl, rfl, rfl⟩ := hp332
      replace hE := fon_ok e332 hE
      refine aw_istore (lv2 := [(10, _), (9, _), (0, _), (5, _), (6, _), (7, _), (8, _)]) dX11_readChunks_335 (by decide) rfl ?_
      refine aw_aload_n dX11_readChunks_337 rfl ?_
      refine aw_dup dX11_readChunks_338 rfl ?_
      refine aw_getf (v := .int (mr_pos s313)) dX11_readChunks_339 flX11_84_10 at_mod rfl ?_
      refine aw_iconst (v := 1) dX11_readChunks_342 (by decide) ?_
      refine aw_iadd dX11_readChunks_343 ?_
      refine aw_putf dX11_readChunks_344 ptX11_84_10 at_mod (Nat.le_of_ble_eq_true rfl) ⟨rfl, rfl⟩ ?_
      refine aw_eqh (h2 := HM mo mw ((mr_size s313), ((mr_pos s313) + 1), (mr_kind s313), (mr_whr s313), (mr_gw s313), (mr_gh s313), (mr_one s313), (mr_two s313), (mr_three s313)) ms mt mu dd wi hi gt sp ta li sr co hb) up_mod ?_
      refine aw_iconst (v := 1) dX11_readChunks_347 (by decide) ?_
      refine aw_istore (lv2 := [(11, _), (10, _), (9, _), (0, _), (5, _), (6, _), (7, _), (8, _)]) dX11_readChunks_348 (by decide) rfl ?_
      refine aw_iload dX11_readChunks_350 rfl ?_
      refine aw_sipush (v := 254) dX11_readChunks_352 (by decide) ?_
      refine aw_icmp_lt (tgt := 449) dX11_readChunks_355 (by decide) (fun c355 => ?_) (fun c355 => ?_)
      · replace hE := fit hE c355
        refine aw_iload dX11_readChunks_449 rfl ?_
        refine aw_bipush (v := 64) dX11_readChunks_451 (by decide) ?_
        refine aw_icmp_ge (tgt := 483) dX11_readChunks_453 (by decide) (fun c453 => ?_) (fun c453 => ?_)
        · replace hE := fit hE c453
          refine aw_iload dX11_readChunks_483 rfl ?_
          refine aw_sipush (v := 128) dX11_readChunks_485 (by decide) ?_
          refine aw_icmp_ge (tgt := 523) dX11_readChunks_488 (by decide) (fun c488 => ?_) (fun c488 => ?_)
          · replace hE := fit hE c488
            refine aw_iload dX11_readChunks_523 rfl ?_
            refine aw_sipush (v := 192) dX11_readChunks_525 (by decide) ?_
            refine aw_icmp_ge (tgt := 604) dX11_readChunks_528 (by decide) (fun c528 => ?_) (fun c528 => ?_)
            · replace hE := fit hE c528
              refine aw_iload dX11_readChunks_604 rfl ?_
              refine aw_bipush (v := 63) dX11_readChunks_606 (by decide) ?_
              refine aw_iand dX11_readChunks_608 ?_
              refine aw_iconst (v := 1) dX11_readChunks_609 (by decide) ?_
              refine aw_iadd dX11_readChunks_610 ?_
              refine aw_istore (lv2 := [(11, _), (10, _), (9, _), (0, _), (5, _), (6, _), (7, _), (8, _)]) dX11_readChunks_611 (by decide) rfl ?_
              refine aw_iload dX11_readChunks_613 rfl ?_
              refine aw_iload dX11_readChunks_615 rfl ?_
              refine aw_iload dX11_readChunks_617 rfl ?_
              refine aw_isub dX11_readChunks_619 ?_
              refine aw_icmp_le (tgt := 631) dX11_readChunks_620 (by decide) (fun c620 => ?_) (fun c620 => ?_)
              · replace hE := fit hE c620
                exact aw_lv _ (List.forall_mem_cons.mpr ⟨rfl, (List.forall_mem_cons.mpr ⟨rfl, (List.forall_mem_cons.mpr ⟨rfl, (List.forall_mem_cons.mpr ⟨rfl, (List.forall_mem_cons.mpr ⟨rfl, (List.forall_mem_cons.mpr ⟨rfl, fun _ h => absurd h List.not_mem_nil⟩)⟩)⟩)⟩)⟩)⟩) (b_X11_readChunks_631 mo mw ms mt mu dd wi hi ta li sr co hb n hms k304 hk304 v5 v6 v8 z332 ((z332 &&& 63) + 1) ((mr_size s313), ((mr_pos s313) + 1), (mr_kind s313), (mr_whr s313), (mr_gw s313), (mr_gh s313), (mr_one s313), (mr_two s313), (mr_three s313)) gt sp _ hE hF)
              · replace hE := fif hE c620
                refine aw_aload_n dX11_readChunks_623 rfl ?_
                refine aw_iconst (v := 4) dX11_readChunks_624 (by decide) ?_
                refine aw_iload dX11_readChunks_625 rfl ?_
                refine aw_callV dX11_readChunks_627 at_mod cvX11_90 rfl (kF_X11_wrong mo mw ((mr_size s313), ((mr_pos s313) + 1), (mr_kind s313), (mr_whr s313), (mr_gw s313), (mr_gh s313), (mr_one s313), (mr_two s313), (mr_three s313)) ms mt mu dd wi hi gt sp ta li sr co hb _  4 (mr_pos s313) (fon_ne hE hF)) rfl (Nat.le_of_ble_eq_true rfl) (by decide) (by decide) (by decide) (by decide) (fun _ _ _ hf => False.elim hf) (fun r627 h627 n627 hp627 => ?_)
                obtain ⟨z627, s627, e627, rfl, rfl, rfl⟩ := hp627
                replace hE := fon_ok e627 hE
                obtain ⟨g630, hE⟩ := fgd hE hF
                exact aw_zret dX11_readChunks_630 rfl (narB g630) (Nat.zero_le _) (Nat.zero_le _) (Nat.zero_le _) (Nat.zero_le _) ⟨_, _, hE.symm, rfl, rfl, rfl⟩
            · replace hE := fif hE c528
              refine aw_aload_n dX11_readChunks_531 rfl ?_
              refine aw_iconst (v := 1) dX11_readChunks_532 (by decide) ?_
              refine aw_callV dX11_readChunks_533 at_mod cvX11_103 rfl (kF_X11_want mo mw ((mr_size s313), ((mr_pos s313) + 1), (mr_kind s313), (mr_whr s313), (mr_gw s313), (mr_gh s313), (mr_one s313), (mr_two s313), (mr_three s313)) ms mt mu dd wi hi gt sp ta li sr co hb _  1 (fon_ne hE hF)) rfl (Nat.le_of_ble_eq_true rfl) (by decide) (by decide) (by decide) (by decide) (fun _ _ _ hf => False.elim hf) (fun r533 h533 n533 hp533 => ?_)
              obtain ⟨z533, s533, e533, rfl, rfl, rfl⟩ := hp533
              replace hE := fon_ok e533 hE
              refine aw_if_ne (tgt := 541) dX11_readChunks_536 (by decide) (fun c536 => ?_) (fun c536 => ?_)
              · replace hE := fif hE c536
                refine aw_aload_n dX11_readChunks_541 rfl ?_
                refine aw_aload_n dX11_readChunks_542 rfl ?_
                refine aw_getf (v := .int (mr_pos s533)) dX11_readChunks_543 flX11_84_10 at_mod rfl ?_
                refine aw_callV dX11_readChunks_546 at_mod cvX11_99 rfl (kF_X11_b mo mw s533 ms mt mu dd wi hi gt sp ta li sr co hb _ hms (mr_pos s533) (fon_ne hE hF)) rfl (Nat.le_of_ble_eq_true rfl) (by decide) (by decide) (by decide) (by decide) (fun _ _ _ hf => False.elim hf) (fun r546 h546 n546 hp546 => ?_)
                obtain ⟨z546, s546, e546, rfl, rfl, rfl⟩ := hp546
                replace hE := fon_ok e546 hE
                refine aw_istore (lv2 := [(12, _), (11, _), (10, _), (9, _), (0, _), (5, _), (6, _), (7, _), (8, _)]) dX11_readChunks_549 (by decide) rfl ?_
                refine aw_aload_n dX11_readChunks_551 rfl ?_
                refine aw_dup dX11_readChunks_552 rfl ?_
                refine aw_getf (v := .int (mr_pos s533)) dX11_readChunks_553 flX11_84_10 at_mod rfl ?_
                refine aw_iconst (v := 1) dX11_readChunks_556 (by decide) ?_
                refine aw_iadd dX11_readChunks_557 ?_
                refine aw_putf dX11_readChunks_558 ptX11_84_10 at_mod (Nat.le_of_ble_eq_true rfl) ⟨rfl, rfl⟩ ?_
                refine aw_eqh (h2 := HM mo mw ((mr_size s533), ((mr_pos s533) + 1), (mr_kind s533), (mr_whr s533), (mr_gw s533), (mr_gh s533), (mr_one s533), (mr_two s533), (mr_three s533)) ms mt mu dd wi hi gt sp ta li sr co hb) up_mod ?_
                refine aw_iload dX11_readChunks_561 rfl ?_
                refine aw_bipush (v := 63) dX11_readChunks_563 (by decide) ?_
                refine aw_iand dX11_readChunks_565 ?_
                refine aw_bipush (v := 32) dX11_readChunks_566 (by decide) ?_
                refine aw_isub dX11_readChunks_568 ?_
                refine aw_istore (lv2 := [(13, _), (12, _), (11, _), (10, _), (9, _), (0, _), (5, _), (6, _), (7, _), (8, _)]) dX11_readChunks_569 (by decide) rfl ?_
                refine aw_iload dX11_readChunks_571 rfl ?_
                refine aw_iload dX11_readChunks_573 rfl ?_
                refine aw_iload dX11_readChunks_575 rfl ?_
                refine aw_iconst (v := 4) dX11_readChunks_577 (by decide) ?_
                refine aw_ishr dX11_readChunks_578 ?_
                refine aw_iadd dX11_readChunks_579 ?_
                refine aw_bipush (v := 8) dX11_readChunks_580 (by decide) ?_
                refine aw_isub dX11_readChunks_582 ?_
                refine aw_iload dX11_readChunks_583 rfl ?_
                refine aw_iload dX11_readChunks_585 rfl ?_
                refine aw_iload dX11_readChunks_587 rfl ?_
                refine aw_bipush (v := 15) dX11_readChunks_589 (by decide) ?_
                refine aw_iand dX11_readChunks_591 ?_
                refine aw_iadd dX11_readChunks_592 ?_
                refine aw_bipush (v := 8) dX11_readChunks_593 (by decide) ?_
                refine aw_isub dX11_readChunks_595 ?_
                refine aw_callS dX11_readChunks_596  csX11_139 rfl (kF_X11_more _ _ v6 ((((z332 &&& 63) - 32) + (z546 >>> ((4 : Int32) &&& 31))) - 8) ((z332 &&& 63) - 32) ((((z332 &&& 63) - 32) + (z546 &&& 15)) - 8)) rfl (Nat.le_of_ble_eq_true rfl) (by decide) (by decide) (by decide) (by decide) (fun _ _ _ hf => False.elim hf) (fun r596 h596 n596 hp596 => ?_)
                obtain ⟨rfl, rfl, rfl⟩ := hp596
                refine aw_istore (lv2 := [(6, _), (13, _), (12, _), (11, _), (10, _), (9, _), (0, _), (5, _), (7, _), (8, _)]) dX11_readChunks_599 (by decide) rfl ?_
                refine aw_goto (tgt := 631) dX11_readChunks_601 (by decide) ?_
                exact aw_lv _ (List.forall_mem_cons.mpr ⟨rfl, (List.forall_mem_cons.mpr ⟨rfl, (List.forall_mem_cons.mpr ⟨rfl, (List.forall_mem_cons.mpr ⟨rfl, (List.forall_mem_cons.mpr ⟨rfl, (List.forall_mem_cons.mpr ⟨rfl, fun _ h => absurd h List.not_mem_nil⟩)⟩)⟩)⟩)⟩)⟩) (b_X11_readChunks_631 mo mw ms mt mu dd wi hi ta li sr co hb n hms k304 hk304 v5 (F_X11_more v6 ((((z332 &&& 63) - 32) + (z546 >>> ((4 : Int32) &&& 31))) - 8) ((z332 &&& 63) - 32) ((((z332 &&& 63) - 32) + (z546 &&& 15)) - 8)) v8 z332 (1 : Int32) ((mr_size s533), ((mr_pos s533) + 1), (mr_kind s533), (mr_whr s533), (mr_gw s533), (mr_gh s533), (mr_one s533), (mr_two s533), (mr_three s533)) gt sp _ hE hF)
              · replace hE := fit hE c536
                refine aw_iconst (v := 0) dX11_readChunks_539 (by decide) ?_
                exact aw_zret dX11_readChunks_540 rfl (narB (by decide)) (Nat.zero_le _) (Nat.zero_le _) (Nat.zero_le _) (Nat.zero_le _) ⟨_, _, hE.symm, rfl, rfl, rfl⟩
          · replace hE := fif hE c488
            refine aw_iload dX11_readChunks_491 rfl ?_
            refine aw_iload dX11_readChunks_493 rfl ?_
            refine aw_iconst (v := 4) dX11_readChunks_495 (by decide) ?_
            refine aw_ishr dX11_readChunks_496 ?_
            refine aw_iconst (v := 3) dX11_readChunks_497 (by decide) ?_
            refine aw_iand dX11_readChunks_498 ?_
            refine aw_iconst (v := 2) dX11_readChunks_499 (by decide) ?_
            refine aw_isub dX11_readChunks_500 ?_
            refine aw_iload dX11_readChunks_501 rfl ?_
            refine aw_iconst (v := 2) dX11_readChunks_503 (by decide) ?_
            refine aw_ishr dX11_readChunks_504 ?_
            refine aw_iconst (v := 3) dX11_readChunks_505 (by decide) ?_
            refine aw_iand dX11_readChunks_506 ?_
            refine aw_iconst (v := 2) dX11_readChunks_507 (by decide) ?_
            refine aw_isub dX11_readChunks_508 ?_
            refine aw_iload dX11_readChunks_509 rfl ?_
            refine aw_iconst (v := 3) dX11_readChunks_511 (by decide) ?_
            refine aw_iand dX11_readChunks_512 ?_
            refine aw_iconst (v := 2) dX11_readChunks_513 (by decide) ?_
            refine aw_isub dX11_readChunks_514 ?_
            refine aw_callS dX11_readChunks_515  csX11_139 rfl (kF_X11_more _ _ v6 (((z332 >>> ((4 : Int32) &&& 31)) &&& 3) - 2) (((z332 >>> ((2 : Int32) &&& 31)) &&& 3) - 2) ((z332 &&& 3) - 2)) rfl (Nat.le_of_ble_eq_true rfl) (by decide) (by decide) (by decide) (by decide) (fun _ _ _ hf => False.elim hf) (fun r515 h515 n515 hp515 => ?_)
            obtain ⟨rfl, rfl, rfl⟩ := hp515
            refine aw_istore (lv2 := [(6, _), (11, _), (10, _), (9, _), (0, _), (5, _), (7, _), (8, _)]) dX11_readChunks_518 (by decide) rfl ?_
            refine aw_goto (tgt := 631) dX11_readChunks_520 (by decide) ?_
            exact aw_lv _ (List.forall_mem_cons.mpr ⟨rfl, (List.forall_mem_cons.mpr ⟨rfl, (List.forall_mem_cons.mpr ⟨rfl, (List.forall_mem_cons.mpr ⟨rfl, (List.forall_mem_cons.mpr ⟨rfl, (List.forall_mem_cons.mpr ⟨rfl, fun _ h => absurd h List.not_mem_nil⟩)⟩)⟩)⟩)⟩)⟩) (b_X11_readChunks_631 mo mw ms mt mu dd wi hi ta li sr co hb n hms k304 hk304 v5 (F_X11_more v6 (((z332 >>> ((4 : Int32) &&& 31)) &&& 3) - 2) (((z332 >>> ((2 : Int32) &&& 31)) &&& 3) - 2) ((z332 &&& 3) - 2)) v8 z332 (1 : Int32) ((mr_size s313), ((mr_pos s313) + 1), (mr_kind s313), (mr_whr s313), (mr_gw s313), (mr_gh s313), (mr_one s313), (mr_two s313), (mr_three s313)) gt sp _ hE hF)
        · replace hE := fif hE c453
          refine aw_iload dX11_readChunks_456 rfl ?_
          refine aw_iload dX11_readChunks_458 rfl ?_
          refine aw_icmp_ne (tgt := 471) dX11_readChunks_460 (by decide) (fun c460 => ?_) (fun c460 => ?_)
          · replace hE := fif hE c460
            refine aw_aload_n dX11_readChunks_471 rfl ?_
            refine aw_getf (v := .ref 38) dX11_readChunks_472 flX11_46_10 at_mod rfl ?_
            refine aw_iload dX11_readChunks_475 rfl ?_
            obtain ⟨g477, hE⟩ := fgd hE hF
            refine aw_iald (f := sp) dX11_readChunks_477 at_mspots (vp_in_iff.mpr g477) ?_
            refine aw_istore (lv2 := [(6, _), (11, _), (10, _), (9, _), (0, _), (5, _), (7, _), (8, _)]) dX11_readChunks_478 (by decide) rfl ?_
            refine aw_goto (tgt := 631) dX11_readChunks_480 (by decide) ?_
            exact aw_lv _ (List.forall_mem_cons.mpr ⟨rfl, (List.forall_mem_cons.mpr ⟨rfl, (List.forall_mem_cons.mpr ⟨rfl, (List.forall_mem_cons.mpr ⟨rfl, (List.forall_mem_cons.mpr ⟨rfl, (List.forall_mem_cons.mpr ⟨rfl, fun _ h => absurd h List.not_mem_nil⟩)⟩)⟩)⟩)⟩)⟩) (b_X11_readChunks_631 mo mw ms mt mu dd wi hi ta li sr co hb n hms k304 hk304 v5 (sp (Int32.toNatClampNeg z332)) v8 z332 (1 : Int32) ((mr_size s313), ((mr_pos s313) + 1), (mr_kind s313), (mr_whr s313), (mr_gw s313), (mr_gh s313), (mr_one s313), (mr_two s313), (mr_three s313)) gt sp _ hE hF)
          · replace hE := fit hE c460
            refine aw_aload_n dX11_readChunks_463 rfl ?_
            refine aw_iconst (v := 4) dX11_readChunks_464 (by decide) ?_
            refine aw_iload dX11_readChunks_465 rfl ?_
            refine aw_callV dX11_readChunks_467 at_mod cvX11_90 rfl (kF_X11_wrong mo mw ((mr_size s313), ((mr_pos s313) + 1), (mr_kind s313), (mr_whr s313), (mr_gw s313), (mr_gh s313), (mr_one s313), (mr_two s313), (mr_three s313)) ms mt mu dd wi hi gt sp ta li sr co hb _  4 (mr_pos s313) (fon_ne hE hF)) rfl (Nat.le_of_ble_eq_true rfl) (by decide) (by decide) (by decide) (by decide) (fun _ _ _ hf => False.elim hf) (fun r467 h467 n467 hp467 => ?_)
            obtain ⟨z467, s467, e467, rfl, rfl, rfl⟩ := hp467
            replace hE := fon_ok e467 hE
            obtain ⟨g470, hE⟩ := fgd hE hF
            exact aw_zret dX11_readChunks_470 rfl (narB g470) (Nat.zero_le _) (Nat.zero_le _) (Nat.zero_le _) (Nat.zero_le _) ⟨_, _, hE.symm, rfl, rfl, rfl⟩
      · replace hE := fif hE c355
        refine aw_iload dX11_readChunks_358 rfl ?_
        refine aw_sipush (v := 251) dX11_readChunks_360 (by decide) ?_
        refine aw_isub dX11_readChunks_363 ?_
        refine aw_istore (lv2 := [(12, _), (11, _), (10, _), (9, _), (0, _), (5, _), (6, _), (7, _), (8, _)]) dX11_readChunks_364 (by decide) rfl ?_
        refine aw_aload_n dX11_readChunks_366 rfl ?_
        refine aw_iload dX11_readChunks_367 rfl ?_
        refine aw_callV dX11_readChunks_369 at_mod cvX11_103 rfl (kF_X11_want mo mw ((mr_size s313), ((mr_pos s313) + 1), (mr_kind s313), (mr_whr s313), (mr_gw s313), (mr_gh s313), (mr_one s313), (mr_two s313), (mr_three s313)) ms mt mu dd wi hi gt sp ta li sr co hb _  (z332 - 251) (fon_ne hE hF)) rfl (Nat.le_of_ble_eq_true rfl) (by decide) (by decide) (by decide) (by decide) (fun _ _ _ hf => False.elim hf) (fun r369 h369 n369 hp369 => ?_)
        obtain ⟨z369, s369, e369, rfl, rfl, rfl⟩ := hp369
        replace hE := fon_ok e369 hE
        refine aw_if_ne (tgt := 377) dX11_readChunks_372 (by decide) (fun c372 => ?_) (fun c372 => ?_)
        · replace hE := fif hE c372
          refine aw_aload_n dX11_readChunks_377 rfl ?_
          refine aw_aload_n dX11_readChunks_378 rfl ?_
          refine aw_getf (v := .int (mr_pos s369)) dX11_readChunks_379 flX11_84_10 at_mod rfl ?_
          refine aw_callV dX11_readChunks_382 at_mod cvX11_99 rfl (kF_X11_b mo mw s369 ms mt mu dd wi hi gt sp ta li sr co hb _ hms (mr_pos s369) (fon_ne hE hF)) rfl (Nat.le_of_ble_eq_true rfl) (by decide) (by decide) (by decide) (by decide) (fun _ _ _ hf => False.elim hf) (fun r382 h382 n382 hp382 => ?_)
          obtain ⟨z382, s382, e382, rfl, rfl, rfl⟩ := hp382
          replace hE := fon_ok e382 hE
          refine aw_aload_n dX11_readChunks_385 rfl ?_
          refine aw_aload_n dX11_readChunks_386 rfl ?_
          refine aw_getf (v := .int (mr_pos s369)) dX11_readChunks_387 flX11_84_10 at_mod rfl ?_
          refine aw_iconst (v := 1) dX11_readChunks_390 (by decide) ?_
          refine aw_iadd dX11_readChunks_391 ?_
          refine aw_callV dX11_readChunks_392 at_mod cvX11_99 rfl (kF_X11_b mo mw s369 ms mt mu dd wi hi gt sp ta li sr co hb _ hms ((mr_pos s369) + 1) (fon_ne hE hF)) rfl (Nat.le_of_ble_eq_true rfl) (by decide) (by decide) (by decide) (by decide) (fun _ _ _ hf => False.elim hf) (fun r392 h392 n392 hp392 => ?_)
          obtain ⟨z392, s392, e392, rfl, rfl, rfl⟩ := hp392
          replace hE := fon_ok e392 hE
          refine aw_aload_n dX11_readChunks_395 rfl ?_
          refine aw_aload_n dX11_readChunks_396 rfl ?_
          refine aw_getf (v := .int (mr_pos s369)) dX11_readChunks_397 flX11_84_10 at_mod rfl ?_
          refine aw_iconst (v := 2) dX11_readChunks_400 (by decide) ?_
          refine aw_iadd dX11_readChunks_401 ?_
          refine aw_callV dX11_readChunks_402 at_mod cvX11_99 rfl (kF_X11_b mo mw s369 ms mt mu dd wi hi gt sp ta li sr co hb _ hms ((mr_pos s369) + 2) (fon_ne hE hF)) rfl (Nat.le_of_ble_eq_true rfl) (by decide) (by decide) (by decide) (by decide) (fun _ _ _ hf => False.elim hf) (fun r402 h402 n402 hp402 => ?_)
          obtain ⟨z402, s402, e402, rfl, rfl, rfl⟩ := hp402
          replace hE := fon_ok e402 hE
          refine aw_iload dX11_readChunks_405 rfl ?_
          refine aw_iconst (v := 4) dX11_readChunks_407 (by decide) ?_
          refine aw_icmp_ne (tgt := 424) dX11_readChunks_408 (by decide) (fun c408 => ?_) (fun c408 => ?_)
          · replace hE := fif hE c408
            refine aw_iload dX11_readChunks_424 rfl ?_
            refine aw_sipush (v := 255) dX11_readChunks_426 (by decide) ?_
            refine aw_iand dX11_readChunks_429 ?_
            exact aw_lv _ (List.forall_mem_cons.mpr ⟨rfl, (List.forall_mem_cons.mpr ⟨rfl, (List.forall_mem_cons.mpr ⟨rfl, (List.forall_mem_cons.mpr ⟨rfl, (List.forall_mem_cons.mpr ⟨rfl, (List.forall_mem_cons.mpr ⟨rfl, fun _ h => absurd h List.not_mem_nil⟩)⟩)⟩)⟩)⟩)⟩) (b_X11_readChunks_430 mo mw ms mt mu dd wi hi ta li sr co hb n hms k304 hk304 v5 v8 z332 (1 : Int32) (z332 - 251) (v6 &&& 255) z402 z392 z382 s369 gt sp _ hE hF)
          · replace hE := fit hE c408
            refine aw_aload_n dX11_readChunks_411 rfl ?_
            refine aw_aload_n dX11_readChunks_412 rfl ?_
            refine aw_getf (v := .int (mr_pos s369)) dX11_readChunks_413 flX11_84_10 at_mod rfl ?_
            refine aw_iconst (v := 3) dX11_readChunks_416 (by decide) ?_
            refine aw_iadd dX11_readChunks_417 ?_
            refine aw_callV dX11_readChunks_418 at_mod cvX11_99 rfl (kF_X11_b mo mw s369 ms mt mu dd wi hi gt sp ta li sr co hb _ hms ((mr_pos s369) + 3) (fon_ne hE hF)) rfl (Nat.le_of_ble_eq_true rfl) (by decide) (by decide) (by decide) (by decide) (fun _ _ _ hf => False.elim hf) (fun r418 h418 n418 hp418 => ?_)
            obtain ⟨z418, s418, e418, rfl, rfl, rfl⟩ := hp418
            replace hE := fon_ok e418 hE
            refine aw_goto (tgt := 430) dX11_readChunks_421 (by decide) ?_
            exact aw_lv _ (List.forall_mem_cons.mpr ⟨rfl, (List.forall_mem_cons.mpr ⟨rfl, (List.forall_mem_cons.mpr ⟨rfl, (List.forall_mem_cons.mpr ⟨rfl, (List.forall_mem_cons.mpr ⟨rfl, (List.forall_mem_cons.mpr ⟨rfl, fun _ h => absurd h List.not_mem_nil⟩)⟩)⟩)⟩)⟩)⟩) (b_X11_readChunks_430 mo mw ms mt mu dd wi hi ta li sr co hb n hms k304 hk304 v5 v8 z332 (1 : Int32) (z332 - 251) z418 z402 z392 z382 s369 gt sp _ hE hF)
        · replace hE := fit hE c372
          refine aw_iconst (v := 0) dX11_readChunks_375 (by decide) ?_
          exact aw_zret dX11_readChunks_376 rfl (narB (by decide)) (Nat.zero_le _) (Nat.zero_le _) (Nat.zero_le _) (Nat.zero_le _) ⟨_, _, hE.symm, rfl, rfl, rfl⟩
    · replace hE := fit hE c316
      refine aw_iconst (v := 0) dX11_readChunks_319 (by decide) ?_
      exact aw_zret dX11_readChunks_320 rfl (narB (by decide)) (Nat.zero_le _) (Nat.zero_le _) (Nat.zero_le _) (Nat.zero_le _) ⟨_, _, hE.symm, rfl, rfl, rfl⟩
def F_X11_readChunks_261 (sb : A) (k261 : Int32 → MR → A → A → Out (MR × A × A) Int32) (v5 : Int32) (mr : MR) (gt : A) (sp : A) : Out (MR × A × A) Int32 := if 64 ≤ v5 then (lp (fun _ _ _ _ _ _ _ => fno) (F_X11_readChunks_304 sb) FU ((mr_gw mr) * (mr_gh mr)) (255 : Int32) (-1 : Int32) (0 : Int32) mr gt sp) else (if inb v5 64 then (k261 (v5 + 1) mr gt (upd sp (Int32.toNatClampNeg v5) 0)) else fno)
set_option maxHeartbeats 1000000 in
set_option maxRecDepth 100000 in
theorem b_X11_readChunks_261 (mo : MO) (mw : MW) (ms : Nat) (mt : A) (mu : A) (dd : A) (wi : A) (hi : A) (ta : A) (li : A) (sr : A) (co : A) (hb : aH) (n : Nat) (hms : isMS ms) (k261 : Int32 → MR → A → A → Out (MR × A × A) Int32) (hk261 : Q_X11_readChunks_261 mo mw ms mt mu dd wi hi ta li sr co hb n k261) : Q_X11_readChunks_261 mo mw ms mt mu dd wi hi ta li sr co hb n (F_X11_readChunks_261 (srcB ms mt mu) k261) := by
  intro v5 mr gt sp res hE hF
  unfold F_X11_readChunks_261 at hE
  refine aw_iload dX11_readChunks_261 rfl ?_
  refine aw_bipush (v := 64) dX11_readChunks_263 (by decide) ?_
  refine aw_icmp_ge (tgt := 282) dX11_readChunks_265 (by decide) (fun c265 => ?_) (fun c265 => ?_)
  · replace hE := fit hE c265
    refine aw_aload_n dX11_readChunks_282 rfl ?_
    refine aw_getf (v := .int (mr_gw mr)) dX11_readChunks_283 flX11_109_10 at_mod rfl ?_
    refine aw_aload_n dX11_readChunks_286 rfl ?_
    refine aw_getf (v := .int (mr_gh mr)) dX11_readChunks_287 flX11_112_10 at_mod rfl ?_
    refine aw_imul dX11_readChunks_290 ?_
    refine aw_istore (lv2 := [(5, _), (0, _)]) dX11_readChunks_291 (by decide) rfl ?_
    refine aw_sipush (v := 255) dX11_readChunks_293 (by decide) ?_
    refine aw_istore (lv2 := [(6, _), (5, _), (0, _)]) dX11_readChunks_296 (by decide) rfl ?_
    refine aw_iconst (v := (-1)) dX11_readChunks_298 (by decide) ?_
    refine aw_istore (lv2 := [(7, _), (6, _), (5, _), (0, _)]) dX11_readChunks_299 (by decide) rfl ?_
    refine aw_iconst (v := 0) dX11_readChunks_301 (by decide) ?_
    refine aw_istore (lv2 := [(8, _), (7, _), (6, _), (5, _), (0, _)]) dX11_readChunks_302 (by decide) rfl ?_
    exact aw_lv _ (List.forall_mem_cons.mpr ⟨rfl, (List.forall_mem_cons.mpr ⟨rfl, (List.forall_mem_cons.mpr ⟨rfl, (List.forall_mem_cons.mpr ⟨rfl, (List.forall_mem_cons.mpr ⟨rfl, fun _ h => absurd h List.not_mem_nil⟩)⟩)⟩)⟩)⟩) (lp_ind (Q_X11_readChunks_304 mo mw ms mt mu dd wi hi ta li sr co hb n) (fun _ _ _ _ _ _ _ res hq hF => (hF hq.symm).elim) (fun k hk => b_X11_readChunks_304 mo mw ms mt mu dd wi hi ta li sr co hb n hms  k hk) FU ((mr_gw mr) * (mr_gh mr)) (255 : Int32) (-1 : Int32) (0 : Int32) mr gt sp _ hE hF)
  · replace hE := fif hE c265
    refine aw_aload_n dX11_readChunks_268 rfl ?_
    refine aw_getf (v := .ref 38) dX11_readChunks_269 flX11_46_10 at_mod rfl ?_
    refine aw_iload dX11_readChunks_272 rfl ?_
    refine aw_iconst (v := 0) dX11_readChunks_274 (by decide) ?_
    obtain ⟨g275, hE⟩ := fgd hE hF
    refine aw_iast (f := sp) dX11_readChunks_275 at_mspots (vp_in_iff.mpr g275) ?_
    refine aw_eqh (h2 := HM mo mw mr ms mt mu dd wi hi gt (upd sp (Int32.toNatClampNeg v5) 0) ta li sr co hb) up_mspots ?_
    refine aw_iinc (v := (v5 + 1)) (lv2 := [(5, _), (0, _)]) dX11_readChunks_276 rfl (incE (by decide)) (by decide) rfl ?_
    refine aw_goto (tgt := 261) dX11_readChunks_279 (by decide) ?_
    exact aw_lv _ (List.forall_mem_cons.mpr ⟨rfl, (List.forall_mem_cons.mpr ⟨rfl, fun _ h => absurd h List.not_mem_nil⟩)⟩) (hk261 (v5 + 1) mr gt (upd sp (Int32.toNatClampNeg v5) 0) _ hE hF)
def F_X11_readChunks_193 (sb : A)  (mr : MR) (gt : A) (sp : A) : Out (MR × A × A) Int32 := fon (F_X11_want 1 ((mr_size mr), ((mr_pos mr) + 1), (mr_kind mr), (mr_whr mr), (mr_gw mr), (mr_gh mr), (mr_one mr), (mr_two mr), (mr_three mr))) (fun z205 s205 => if z205 = 0 then (fok (0 : Int32) (s205, gt, sp)) else (fon (F_X11_b (mr_pos s205) sb) (fun z219 s219 => if z219 ≤ 1 then (lp (fun _ _ _ _ => fno) (F_X11_readChunks_261 sb) FU (0 : Int32) ((mr_size s205), ((mr_pos s205) + 1), (mr_kind s205), (mr_whr s205), (mr_gw s205), (mr_gh s205), (mr_one s205), z219, 0) gt sp) else (fon (F_X11_wrong 2 (mr_pos s205) ((mr_size s205), (mr_pos s205), (mr_kind s205), (mr_whr s205), (mr_gw s205), (mr_gh s205), (mr_one s205), z219, (mr_three s205))) (fun z239 s239 => if isB z239 then (fok (z239 : Int32) (s239, gt, sp)) else fno) (fun _ _ => fno))) (fun _ _ => fno))) (fun _ _ => fno)
set_option maxHeartbeats 1000000 in
set_option maxRecDepth 100000 in
theorem b_X11_readChunks_193 (mo : MO) (mw : MW) (ms : Nat) (mt : A) (mu : A) (dd : A) (wi : A) (hi : A) (ta : A) (li : A) (sr : A) (co : A) (hb : aH) (n : Nat) (hms : isMS ms)  : Q_X11_readChunks_193 mo mw ms mt mu dd wi hi ta li sr co hb n (F_X11_readChunks_193 (srcB ms mt mu)) := by
  intro mr gt sp res hE hF
  unfold F_X11_readChunks_193 at hE
  refine aw_aload_n dX11_readChunks_193 rfl ?_
  refine aw_dup dX11_readChunks_194 rfl ?_
  refine aw_getf (v := .int (mr_pos mr)) dX11_readChunks_195 flX11_84_10 at_mod rfl ?_
  refine aw_iconst (v := 1) dX11_readChunks_198 (by decide) ?_
  refine aw_iadd dX11_readChunks_199 ?_
  refine aw_putf dX11_readChunks_200 ptX11_84_10 at_mod (Nat.le_of_ble_eq_true rfl) ⟨rfl, rfl⟩ ?_
  refine aw_eqh (h2 := HM mo mw ((mr_size mr), ((mr_pos mr) + 1), (mr_kind mr), (mr_whr mr), (mr_gw mr), (mr_gh mr), (mr_one mr), (mr_two mr), (mr_three mr)) ms mt mu dd wi hi gt sp ta li sr co hb) up_mod ?_
  refine aw_aload_n dX11_readChunks_203 rfl ?_
  refine aw_iconst (v := 1) dX11_readChunks_204 (by decide) ?_
  refine aw_callV dX11_readChunks_205 at_mod cvX11_103 rfl (kF_X11_want mo mw ((mr_size mr), ((mr_pos mr) + 1), (mr_kind mr), (mr_whr mr), (mr_gw mr), (mr_gh mr), (mr_one mr), (mr_two mr), (mr_three mr)) ms mt mu dd wi hi gt sp ta li sr co hb _  1 (fon_ne hE hF)) rfl (Nat.le_of_ble_eq_true rfl) (by decide) (by decide) (by decide) (by decide) (fun _ _ _ hf => False.elim hf) (fun r205 h205 n205 hp205 => ?_)
  obtain ⟨z205, s205, e205, rfl, rfl, rfl⟩ := hp205
  replace hE := fon_ok e205 hE
  refine aw_if_ne (tgt := 213) dX11_readChunks_208 (by decide) (fun c208 => ?_) (fun c208 => ?_)
  · replace hE := fif hE c208
    refine aw_aload_n dX11_readChunks_213 rfl ?_
    refine aw_aload_n dX11_readChunks_214 rfl ?_
    refine aw_aload_n dX11_readChunks_215 rfl ?_
    refine aw_getf (v := .int (mr_pos s205)) dX11_readChunks_216 flX11_84_10 at_mod rfl ?_
    refine aw_callV dX11_readChunks_219 at_mod cvX11_99 rfl (kF_X11_b mo mw s205 ms mt mu dd wi hi gt sp ta li sr co hb _ hms (mr_pos s205) (fon_ne hE hF)) rfl (Nat.le_of_ble_eq_true rfl) (by decide) (by decide) (by decide) (by decide) (fun _ _ _ hf => False.elim hf) (fun r219 h219 n219 hp219 => ?_)
    obtain ⟨z219, s219, e219, rfl, rfl, rfl⟩ := hp219
    replace hE := fon_ok e219 hE
    refine aw_putf dX11_readChunks_222 ptX11_133_10 at_mod (Nat.le_of_ble_eq_true rfl) ⟨rfl, rfl⟩ ?_
    refine aw_eqh (h2 := HM mo mw ((mr_size s205), (mr_pos s205), (mr_kind s205), (mr_whr s205), (mr_gw s205), (mr_gh s205), (mr_one s205), z219, (mr_three s205)) ms mt mu dd wi hi gt sp ta li sr co hb) up_mod ?_
    refine aw_aload_n dX11_readChunks_225 rfl ?_
    refine aw_getf (v := .int z219) dX11_readChunks_226 flX11_133_10 at_mod rfl ?_
    refine aw_iconst (v := 1) dX11_readChunks_229 (by decide) ?_
    refine aw_icmp_le (tgt := 243) dX11_readChunks_230 (by decide) (fun c230 => ?_) (fun c230 => ?_)
    · replace hE := fit hE c230
      refine aw_aload_n dX11_readChunks_243 rfl ?_
      refine aw_dup dX11_readChunks_244 rfl ?_
      refine aw_getf (v := .int (mr_pos s205)) dX11_readChunks_245 flX11_84_10 at_mod rfl ?_
      refine aw_iconst (v := 1) dX11_readChunks_248 (by decide) ?_
      refine aw_iadd dX11_readChunks_249 ?_
      refine aw_putf dX11_readChunks_250 ptX11_84_10 at_mod (Nat.le_of_ble_eq_true rfl) ⟨rfl, rfl⟩ ?_
      refine aw_eqh (h2 := HM mo mw ((mr_size s205), ((mr_pos s205) + 1), (mr_kind s205), (mr_whr s205), (mr_gw s205), (mr_gh s205), (mr_one s205), z219, (mr_three s205)) ms mt mu dd wi hi gt sp ta li sr co hb) up_mod ?_
      refine aw_aload_n dX11_readChunks_253 rfl ?_
      refine aw_iconst (v := 0) dX11_readChunks_254 (by decide) ?_
      refine aw_putf dX11_readChunks_255 ptX11_136_10 at_mod (Nat.le_of_ble_eq_true rfl) ⟨rfl, rfl⟩ ?_
      refine aw_eqh (h2 := HM mo mw ((mr_size s205), ((mr_pos s205) + 1), (mr_kind s205), (mr_whr s205), (mr_gw s205), (mr_gh s205), (mr_one s205), z219, 0) ms mt mu dd wi hi gt sp ta li sr co hb) up_mod ?_
      refine aw_iconst (v := 0) dX11_readChunks_258 (by decide) ?_
      refine aw_istore (lv2 := [(5, _), (0, _)]) dX11_readChunks_259 (by decide) rfl ?_
      exact aw_lv _ (List.forall_mem_cons.mpr ⟨rfl, (List.forall_mem_cons.mpr ⟨rfl, fun _ h => absurd h List.not_mem_nil⟩)⟩) (lp_ind (Q_X11_readChunks_261 mo mw ms mt mu dd wi hi ta li sr co hb n) (fun _ _ _ _ res hq hF => (hF hq.symm).elim) (fun k hk => b_X11_readChunks_261 mo mw ms mt mu dd wi hi ta li sr co hb n hms  k hk) FU (0 : Int32) ((mr_size s205), ((mr_pos s205) + 1), (mr_kind s205), (mr_whr s205), (mr_gw s205), (mr_gh s205), (mr_one s205), z219, 0) gt sp _ hE hF)
    · replace hE := fif hE c230
      refine aw_aload_n dX11_readChunks_233 rfl ?_
      refine aw_iconst (v := 2) dX11_readChunks_234 (by decide) ?_
      refine aw_aload_n dX11_readChunks_235 rfl ?_
      refine aw_getf (v := .int (mr_pos s205)) dX11_readChunks_236 flX11_84_10 at_mod rfl ?_
      refine aw_callV dX11_readChunks_239 at_mod cvX11_90 rfl (kF_X11_wrong mo mw ((mr_size s205), (mr_pos s205), (mr_kind s205), (mr_whr s205), (mr_gw s205), (mr_gh s205), (mr_one s205), z219, (mr_three s205)) ms mt mu dd wi hi gt sp ta li sr co hb _  2 (mr_pos s205) (fon_ne hE hF)) rfl (Nat.le_of_ble_eq_true rfl) (by decide) (by decide) (by decide) (by decide) (fun _ _ _ hf => False.elim hf) (fun r239 h239 n239 hp239 => ?_)
      obtain ⟨z239, s239, e239, rfl, rfl, rfl⟩ := hp239
      replace hE := fon_ok e239 hE
      obtain ⟨g242, hE⟩ := fgd hE hF
      exact aw_zret dX11_readChunks_242 rfl (narB g242) (Nat.zero_le _) (Nat.zero_le _) (Nat.zero_le _) (Nat.zero_le _) ⟨_, _, hE.symm, rfl, rfl, rfl⟩
  · replace hE := fit hE c208
    refine aw_iconst (v := 0) dX11_readChunks_211 (by decide) ?_
    exact aw_zret dX11_readChunks_212 rfl (narB (by decide)) (Nat.zero_le _) (Nat.zero_le _) (Nat.zero_le _) (Nat.zero_le _) ⟨_, _, hE.symm, rfl, rfl, rfl⟩
def F_X11_readChunks_36 (sb : A)  (mr : MR) (gt : A) (sp : A) : Out (MR × A × A) Int32 := fok (0 : Int32) (mr, gt, sp)
set_option maxHeartbeats 1000000 in
set_option maxRecDepth 100000 in
theorem b_X11_readChunks_36 (mo : MO) (mw : MW) (ms : Nat) (mt : A) (mu : A) (dd : A) (wi : A) (hi : A) (ta : A) (li : A) (sr : A) (co : A) (hb : aH) (n : Nat) (hms : isMS ms)  : Q_X11_readChunks_36 mo mw ms mt mu dd wi hi ta li sr co hb n (F_X11_readChunks_36 (srcB ms mt mu)) := by
  intro mr gt sp res hE hF
  unfold F_X11_readChunks_36 at hE
  refine aw_iconst (v := 0) dX11_readChunks_36 (by decide) ?_
  exact aw_zret dX11_readChunks_37 rfl (narB (by decide)) (Nat.zero_le _) (Nat.zero_le _) (Nat.zero_le _) (Nat.zero_le _) ⟨_, _, hE.symm, rfl, rfl, rfl⟩
def F_X11_readChunks (sb : A) (mr : MR) (gt : A) (sp : A) : Out (MR × A × A) Int32 := fon (F_X11_sign 113 sb mr) (fun z3 s3 => if z3 = 0 then (F_X11_readChunks_36 sb s3 gt sp) else (fon (F_X11_sign 111 sb s3) (fun z12 s12 => if z12 = 0 then (F_X11_readChunks_36 sb s12 gt sp) else (fon (F_X11_sign 105 sb s12) (fun z21 s21 => if z21 = 0 then (F_X11_readChunks_36 sb s21 gt sp) else (fon (F_X11_sign 102 sb s21) (fun z30 s30 => if z30 = 0 then (F_X11_readChunks_36 sb s30 gt sp) else (fon (F_X11_want 4 s30) (fun z40 s40 => if z40 = 0 then (fok (0 : Int32) (s40, gt, sp)) else (fon (F_X11_top (mr_pos s40) 4 sb) (fun z54 s54 => if (lg_cmp z54 0) = 0 then (fon (F_X11_wrong 2 (mr_pos s40) s40) (fun z70 s70 => if isB z70 then (fok (z70 : Int32) (s70, gt, sp)) else fno) (fun _ _ => fno)) else (fon (F_X11_want 4 ((mr_size s40), ((mr_pos s40) + 4), (mr_kind s40), (mr_whr s40), (mr_gw s40), (mr_gh s40), (mr_one s40), (mr_two s40), (mr_three s40))) (fun z86 s86 => if z86 = 0 then (fok (0 : Int32) (s86, gt, sp)) else (fon (F_X11_top (mr_pos s86) 4 sb) (fun z100 s100 => if (lg_cmp z100 0) = 0 then (fon (F_X11_wrong 2 (mr_pos s86) s86) (fun z116 s116 => if isB z116 then (fok (z116 : Int32) (s116, gt, sp)) else fno) (fun _ _ => fno)) else (fon (F_X11_fits z54 z100 (mr_pos s86) s86) (fun z127 s127 => if z127 = 0 then (fok (0 : Int32) (s127, gt, sp)) else (fon (F_X11_want 1 ((mr_size s127), ((mr_pos s127) + 4), (mr_kind s127), (mr_whr s127), (mr_gw s127), (mr_gh s127), (mr_one s127), (mr_two s127), (mr_three s127))) (fun z147 s147 => if z147 = 0 then (fok (0 : Int32) (s147, gt, sp)) else (fon (F_X11_b (mr_pos s147) sb) (fun z161 s161 => if z161 = 3 then (F_X11_readChunks_193 sb ((mr_size s147), (mr_pos s147), (mr_kind s147), (mr_whr s147), (mr_gw s147), (mr_gh s147), z161, (mr_two s147), (mr_three s147)) gt sp) else (if z161 = 4 then (F_X11_readChunks_193 sb ((mr_size s147), (mr_pos s147), (mr_kind s147), (mr_whr s147), (mr_gw s147), (mr_gh s147), z161, (mr_two s147), (mr_three s147)) gt sp) else (fon (F_X11_wrong 2 (mr_pos s147) ((mr_size s147), (mr_pos s147), (mr_kind s147), (mr_whr s147), (mr_gw s147), (mr_gh s147), z161, (mr_two s147), (mr_three s147))) (fun z189 s189 => if isB z189 then (fok (z189 : Int32) (s189, gt, sp)) else fno) (fun _ _ => fno)))) (fun _ _ => fno))) (fun _ _ => fno))) (fun _ _ => fno))) (fun _ _ => fno))) (fun _ _ => fno))) (fun _ _ => fno))) (fun _ _ => fno))) (fun _ _ => fno))) (fun _ _ => fno))) (fun _ _ => fno))) (fun _ _ => fno)
set_option maxHeartbeats 1000000 in
set_option maxRecDepth 100000 in
theorem kF_X11_readChunks (mo : MO) (mw : MW) (mr : MR) (ms : Nat) (mt : A) (mu : A) (dd : A) (wi : A) (hi : A) (gt : A) (sp : A) (ta : A) (li : A) (sr : A) (co : A) (hb : aH) (n : Nat) (hms : isMS ms)  (hF : F_X11_readChunks (srcB ms mt mu) mr gt sp ≠ fno) : AM mX11_readChunks 4 [.ref 31] (HM mo mw mr ms mt mu dd wi hi gt sp ta li sr co hb) n 0 0 0 0 (P_X11_readChunks mo mw ms mt mu dd wi hi ta li sr co hb n (F_X11_readChunks (srcB ms mt mu) mr gt sp)) (fun _ _ _ => False) := by
  generalize hE : F_X11_readChunks (srcB ms mt mu) mr gt sp = res at hF ⊢
  refine aw_of (by decide +kernel) rfl (Nat.le_of_ble_eq_true rfl) ?_
  unfold F_X11_readChunks at hE
  refine aw_aload_n dX11_readChunks_0 rfl ?_
  refine aw_bipush (v := 113) dX11_readChunks_1 (by decide) ?_
  refine aw_callV dX11_readChunks_3 at_mod cvX11_119 rfl (kF_X11_sign mo mw mr ms mt mu dd wi hi gt sp ta li sr co hb _ hms 113 (fon_ne hE hF)) rfl (Nat.le_of_ble_eq_true rfl) (by decide) (by decide) (by decide) (by decide) (fun _ _ _ hf => False.elim hf) (fun r3 h3 n3 hp3 => ?_)
  obtain ⟨z3, s3, e3, rfl, rfl, rfl⟩ := hp3
  replace hE := fon_ok e3 hE
  refine aw_if_eq (tgt := 36) dX11_readChunks_6 (by decide) (fun c6 => ?_) (fun c6 => ?_)
  · replace hE := fit hE c6
    exact aw_lv _ (fun _ h => absurd h List.not_mem_nil) (b_X11_readChunks_36 mo mw ms mt mu dd wi hi ta li sr co hb n hms  s3 gt sp _ hE hF)
  · replace hE := fif hE c6
    refine aw_aload_n dX11_readChunks_9 rfl ?_
    refine aw_bipush (v := 111) dX11_readChunks_10 (by decide) ?_
    refine aw_callV dX11_readChunks_12 at_mod cvX11_119 rfl (kF_X11_sign mo mw s3 ms mt mu dd wi hi gt sp ta li sr co hb _ hms 111 (fon_ne hE hF)) rfl (Nat.le_of_ble_eq_true rfl) (by decide) (by decide) (by decide) (by decide) (fun _ _ _ hf => False.elim hf) (fun r12 h12 n12 hp12 => ?_)
    obtain ⟨z12, s12, e12, rfl, rfl, rfl⟩ := hp12
    replace hE := fon_ok e12 hE
    refine aw_if_eq (tgt := 36) dX11_readChunks_15 (by decide) (fun c15 => ?_) (fun c15 => ?_)
    · replace hE := fit hE c15
      exact aw_lv _ (fun _ h => absurd h List.not_mem_nil) (b_X11_readChunks_36 mo mw ms mt mu dd wi hi ta li sr co hb n hms  s12 gt sp _ hE hF)
    · replace hE := fif hE c15
      refine aw_aload_n dX11_readChunks_18 rfl ?_
      refine aw_bipush (v := 105) dX11_readChunks_19 (by decide) ?_
      refine aw_callV dX11_readChunks_21 at_mod cvX11_119 rfl (kF_X11_sign mo mw s12 ms mt mu dd wi hi gt sp ta li sr co hb _ hms 105 (fon_ne hE hF)) rfl (Nat.le_of_ble_eq_true rfl) (by decide) (by decide) (by decide) (by decide) (fun _ _ _ hf => False.elim hf) (fun r21 h21 n21 hp21 => ?_)
      obtain ⟨z21, s21, e21, rfl, rfl, rfl⟩ := hp21
      replace hE := fon_ok e21 hE
      refine aw_if_eq (tgt := 36) dX11_readChunks_24 (by decide) (fun c24 => ?_) (fun c24 => ?_)
      · replace hE := fit hE c24
        exact aw_lv _ (fun _ h => absurd h List.not_mem_nil) (b_X11_readChunks_36 mo mw ms mt mu dd wi hi ta li sr co hb n hms  s21 gt sp _ hE hF)
      · replace hE := fif hE c24
        refine aw_aload_n dX11_readChunks_27 rfl ?_
        refine aw_bipush (v := 102) dX11_readChunks_28 (by decide) ?_
        refine aw_callV dX11_readChunks_30 at_mod cvX11_119 rfl (kF_X11_sign mo mw s21 ms mt mu dd wi hi gt sp ta li sr co hb _ hms 102 (fon_ne hE hF)) rfl (Nat.le_of_ble_eq_true rfl) (by decide) (by decide) (by decide) (by decide) (fun _ _ _ hf => False.elim hf) (fun r30 h30 n30 hp30 => ?_)
        obtain ⟨z30, s30, e30, rfl, rfl, rfl⟩ := hp30
        replace hE := fon_ok e30 hE
        refine aw_if_ne (tgt := 38) dX11_readChunks_33 (by decide) (fun c33 => ?_) (fun c33 => ?_)
        · replace hE := fif hE c33
          refine aw_aload_n dX11_readChunks_38 rfl ?_
          refine aw_iconst (v := 4) dX11_readChunks_39 (by decide) ?_
          refine aw_callV dX11_readChunks_40 at_mod cvX11_103 rfl (kF_X11_want mo mw s30 ms mt mu dd wi hi gt sp ta li sr co hb _  4 (fon_ne hE hF)) rfl (Nat.le_of_ble_eq_true rfl) (by decide) (by decide) (by decide) (by decide) (fun _ _ _ hf => False.elim hf) (fun r40 h40 n40 hp40 => ?_)
          obtain ⟨z40, s40, e40, rfl, rfl, rfl⟩ := hp40
          replace hE := fon_ok e40 hE
          refine aw_if_ne (tgt := 48) dX11_readChunks_43 (by decide) (fun c43 => ?_) (fun c43 => ?_)
          · replace hE := fif hE c43
            refine aw_aload_n dX11_readChunks_48 rfl ?_
            refine aw_aload_n dX11_readChunks_49 rfl ?_
            refine aw_getf (v := .int (mr_pos s40)) dX11_readChunks_50 flX11_84_10 at_mod rfl ?_
            refine aw_iconst (v := 4) dX11_readChunks_53 (by decide) ?_
            refine aw_callV dX11_readChunks_54 at_mod cvX11_122 rfl (kF_X11_top mo mw s40 ms mt mu dd wi hi gt sp ta li sr co hb _ hms (mr_pos s40) 4 (fon_ne hE hF)) rfl (Nat.le_of_ble_eq_true rfl) (by decide) (by decide) (by decide) (by decide) (fun _ _ _ hf => False.elim hf) (fun r54 h54 n54 hp54 => ?_)
            obtain ⟨z54, s54, e54, rfl, rfl, rfl⟩ := hp54
            replace hE := fon_ok e54 hE
            refine aw_lstore_n (lv2 := [(1, _), (0, _)]) dX11_readChunks_57 (by decide) rfl ?_
            refine aw_lload_n dX11_readChunks_58 rfl ?_
            refine aw_lconst (v := 0) dX11_readChunks_59 (by decide) ?_
            refine aw_lcmp dX11_readChunks_60 ?_
            refine aw_if_ne (tgt := 74) dX11_readChunks_61 (by decide) (fun c61 => ?_) (fun c61 => ?_)
            · replace hE := fif hE c61
              refine aw_aload_n dX11_readChunks_74 rfl ?_
              refine aw_dup dX11_readChunks_75 rfl ?_
              refine aw_getf (v := .int (mr_pos s40)) dX11_readChunks_76 flX11_84_10 at_mod rfl ?_
              refine aw_iconst (v := 4) dX11_readChunks_79 (by decide) ?_
              refine aw_iadd dX11_readChunks_80 ?_
              refine aw_putf dX11_readChunks_81 ptX11_84_10 at_mod (Nat.le_of_ble_eq_true rfl) ⟨rfl, rfl⟩ ?_
              refine aw_eqh (h2 := HM mo mw ((mr_size s40), ((mr_pos s40) + 4), (mr_kind s40), (mr_whr s40), (mr_gw s40), (mr_gh s40), (mr_one s40), (mr_two s40), (mr_three s40)) ms mt mu dd wi hi gt sp ta li sr co hb) up_mod ?_
              refine aw_aload_n dX11_readChunks_84 rfl ?_
              refine aw_iconst (v := 4) dX11_readChunks_85 (by decide) ?_
              refine aw_callV dX11_readChunks_86 at_mod cvX11_103 rfl (kF_X11_want mo mw ((mr_size s40), ((mr_pos s40) + 4), (mr_kind s40), (mr_whr s40), (mr_gw s40), (mr_gh s40), (mr_one s40), (mr_two s40), (mr_three s40)) ms mt mu dd wi hi gt sp ta li sr co hb _  4 (fon_ne hE hF)) rfl (Nat.le_of_ble_eq_true rfl) (by decide) (by decide) (by decide) (by decide) (fun _ _ _ hf => False.elim hf) (fun r86 h86 n86 hp86 => ?_)
              obtain ⟨z86, s86, e86, rfl, rfl, rfl⟩ := hp86
              replace hE := fon_ok e86 hE
              refine aw_if_ne (tgt := 94) dX11_readChunks_89 (by decide) (fun c89 => ?_) (fun c89 => ?_)
              · replace hE := fif hE c89
                refine aw_aload_n dX11_readChunks_94 rfl ?_
                refine aw_aload_n dX11_readChunks_95 rfl ?_
                refine aw_getf (v := .int (mr_pos s86)) dX11_readChunks_96 flX11_84_10 at_mod rfl ?_
                refine aw_iconst (v := 4) dX11_readChunks_99 (by decide) ?_
                refine aw_callV dX11_readChunks_100 at_mod cvX11_122 rfl (kF_X11_top mo mw s86 ms mt mu dd wi hi gt sp ta li sr co hb _ hms (mr_pos s86) 4 (fon_ne hE hF)) rfl (Nat.le_of_ble_eq_true rfl) (by decide) (by decide) (by decide) (by decide) (fun _ _ _ hf => False.elim hf) (fun r100 h100 n100 hp100 => ?_)
                obtain ⟨z100, s100, e100, rfl, rfl, rfl⟩ := hp100
                replace hE := fon_ok e100 hE
                refine aw_lstore_n (lv2 := [(3, _), (1, _), (0, _)]) dX11_readChunks_103 (by decide) rfl ?_
                refine aw_lload_n dX11_readChunks_104 rfl ?_
                refine aw_lconst (v := 0) dX11_readChunks_105 (by decide) ?_
                refine aw_lcmp dX11_readChunks_106 ?_
                refine aw_if_ne (tgt := 120) dX11_readChunks_107 (by decide) (fun c107 => ?_) (fun c107 => ?_)
                · replace hE := fif hE c107
                  refine aw_aload_n dX11_readChunks_120 rfl ?_
                  refine aw_lload_n dX11_readChunks_121 rfl ?_
                  refine aw_lload_n dX11_readChunks_122 rfl ?_
                  refine aw_aload_n dX11_readChunks_123 rfl ?_
                  refine aw_getf (v := .int (mr_pos s86)) dX11_readChunks_124 flX11_84_10 at_mod rfl ?_
                  refine aw_callV dX11_readChunks_127 at_mod cvX11_126 rfl (kF_X11_fits mo mw s86 ms mt mu dd wi hi gt sp ta li sr co hb _  z54 z100 (mr_pos s86) (fon_ne hE hF)) rfl (Nat.le_of_ble_eq_true rfl) (by decide) (by decide) (by decide) (by decide) (fun _ _ _ hf => False.elim hf) (fun r127 h127 n127 hp127 => ?_)
                  obtain ⟨z127, s127, e127, rfl, rfl, rfl⟩ := hp127
                  replace hE := fon_ok e127 hE
                  refine aw_if_ne (tgt := 135) dX11_readChunks_130 (by decide) (fun c130 => ?_) (fun c130 => ?_)
                  · replace hE := fif hE c130
                    refine aw_aload_n dX11_readChunks_135 rfl ?_
                    refine aw_dup dX11_readChunks_136 rfl ?_
                    refine aw_getf (v := .int (mr_pos s127)) dX11_readChunks_137 flX11_84_10 at_mod rfl ?_
                    refine aw_iconst (v := 4) dX11_readChunks_140 (by decide) ?_
                    refine aw_iadd dX11_readChunks_141 ?_
                    refine aw_putf dX11_readChunks_142 ptX11_84_10 at_mod (Nat.le_of_ble_eq_true rfl) ⟨rfl, rfl⟩ ?_
                    refine aw_eqh (h2 := HM mo mw ((mr_size s127), ((mr_pos s127) + 4), (mr_kind s127), (mr_whr s127), (mr_gw s127), (mr_gh s127), (mr_one s127), (mr_two s127), (mr_three s127)) ms mt mu dd wi hi gt sp ta li sr co hb) up_mod ?_
                    refine aw_aload_n dX11_readChunks_145 rfl ?_
                    refine aw_iconst (v := 1) dX11_readChunks_146 (by decide) ?_
                    refine aw_callV dX11_readChunks_147 at_mod cvX11_103 rfl (kF_X11_want mo mw ((mr_size s127), ((mr_pos s127) + 4), (mr_kind s127), (mr_whr s127), (mr_gw s127), (mr_gh s127), (mr_one s127), (mr_two s127), (mr_three s127)) ms mt mu dd wi hi gt sp ta li sr co hb _  1 (fon_ne hE hF)) rfl (Nat.le_of_ble_eq_true rfl) (by decide) (by decide) (by decide) (by decide) (fun _ _ _ hf => False.elim hf) (fun r147 h147 n147 hp147 => ?_)
                    obtain ⟨z147, s147, e147, rfl, rfl, rfl⟩ := hp147
                    replace hE := fon_ok e147 hE
                    refine aw_if_ne (tgt := 155) dX11_readChunks_150 (by decide) (fun c150 => ?_) (fun c150 => ?_)
                    · replace hE := fif hE c150
                      refine aw_aload_n dX11_readChunks_155 rfl ?_
                      refine aw_aload_n dX11_readChunks_156 rfl ?_
                      refine aw_aload_n dX11_readChunks_157 rfl ?_
                      refine aw_getf (v := .int (mr_pos s147)) dX11_readChunks_158 flX11_84_10 at_mod rfl ?_
                      refine aw_callV dX11_readChunks_161 at_mod cvX11_99 rfl (kF_X11_b mo mw s147 ms mt mu dd wi hi gt sp ta li sr co hb _ hms (mr_pos s147) (fon_ne hE hF)) rfl (Nat.le_of_ble_eq_true rfl) (by decide) (by decide) (by decide) (by decide) (fun _ _ _ hf => False.elim hf) (fun r161 h161 n161 hp161 => ?_)
                      obtain ⟨z161, s161, e161, rfl, rfl, rfl⟩ := hp161
                      replace hE := fon_ok e161 hE
                      refine aw_putf dX11_readChunks_164 ptX11_130_10 at_mod (Nat.le_of_ble_eq_true rfl) ⟨rfl, rfl⟩ ?_
                      refine aw_eqh (h2 := HM mo mw ((mr_size s147), (mr_pos s147), (mr_kind s147), (mr_whr s147), (mr_gw s147), (mr_gh s147), z161, (mr_two s147), (mr_three s147)) ms mt mu dd wi hi gt sp ta li sr co hb) up_mod ?_
                      refine aw_aload_n dX11_readChunks_167 rfl ?_
                      refine aw_getf (v := .int z161) dX11_readChunks_168 flX11_130_10 at_mod rfl ?_
                      refine aw_iconst (v := 3) dX11_readChunks_171 (by decide) ?_
                      refine aw_icmp_eq (tgt := 193) dX11_readChunks_172 (by decide) (fun c172 => ?_) (fun c172 => ?_)
                      · replace hE := fit hE c172
                        exact aw_lv _ (List.forall_mem_cons.mpr ⟨rfl, fun _ h => absurd h List.not_mem_nil⟩) (b_X11_readChunks_193 mo mw ms mt mu dd wi hi ta li sr co hb n hms  ((mr_size s147), (mr_pos s147), (mr_kind s147), (mr_whr s147), (mr_gw s147), (mr_gh s147), z161, (mr_two s147), (mr_three s147)) gt sp _ hE hF)
                      · replace hE := fif hE c172
                        refine aw_aload_n dX11_readChunks_175 rfl ?_
                        refine aw_getf (v := .int z161) dX11_readChunks_176 flX11_130_10 at_mod rfl ?_
                        refine aw_iconst (v := 4) dX11_readChunks_179 (by decide) ?_
                        refine aw_icmp_eq (tgt := 193) dX11_readChunks_180 (by decide) (fun c180 => ?_) (fun c180 => ?_)
                        · replace hE := fit hE c180
                          exact aw_lv _ (List.forall_mem_cons.mpr ⟨rfl, fun _ h => absurd h List.not_mem_nil⟩) (b_X11_readChunks_193 mo mw ms mt mu dd wi hi ta li sr co hb n hms  ((mr_size s147), (mr_pos s147), (mr_kind s147), (mr_whr s147), (mr_gw s147), (mr_gh s147), z161, (mr_two s147), (mr_three s147)) gt sp _ hE hF)
                        · replace hE := fif hE c180
                          refine aw_aload_n dX11_readChunks_183 rfl ?_
                          refine aw_iconst (v := 2) dX11_readChunks_184 (by decide) ?_
                          refine aw_aload_n dX11_readChunks_185 rfl ?_
                          refine aw_getf (v := .int (mr_pos s147)) dX11_readChunks_186 flX11_84_10 at_mod rfl ?_
                          refine aw_callV dX11_readChunks_189 at_mod cvX11_90 rfl (kF_X11_wrong mo mw ((mr_size s147), (mr_pos s147), (mr_kind s147), (mr_whr s147), (mr_gw s147), (mr_gh s147), z161, (mr_two s147), (mr_three s147)) ms mt mu dd wi hi gt sp ta li sr co hb _  2 (mr_pos s147) (fon_ne hE hF)) rfl (Nat.le_of_ble_eq_true rfl) (by decide) (by decide) (by decide) (by decide) (fun _ _ _ hf => False.elim hf) (fun r189 h189 n189 hp189 => ?_)
                          obtain ⟨z189, s189, e189, rfl, rfl, rfl⟩ := hp189
                          replace hE := fon_ok e189 hE
                          obtain ⟨g192, hE⟩ := fgd hE hF
                          exact aw_zret dX11_readChunks_192 rfl (narB g192) (Nat.zero_le _) (Nat.zero_le _) (Nat.zero_le _) (Nat.zero_le _) ⟨_, _, hE.symm, rfl, rfl, rfl⟩
                    · replace hE := fit hE c150
                      refine aw_iconst (v := 0) dX11_readChunks_153 (by decide) ?_
                      exact aw_zret dX11_readChunks_154 rfl (narB (by decide)) (Nat.zero_le _) (Nat.zero_le _) (Nat.zero_le _) (Nat.zero_le _) ⟨_, _, hE.symm, rfl, rfl, rfl⟩
                  · replace hE := fit hE c130
                    refine aw_iconst (v := 0) dX11_readChunks_133 (by decide) ?_
                    exact aw_zret dX11_readChunks_134 rfl (narB (by decide)) (Nat.zero_le _) (Nat.zero_le _) (Nat.zero_le _) (Nat.zero_le _) ⟨_, _, hE.symm, rfl, rfl, rfl⟩
                · replace hE := fit hE c107
                  refine aw_aload_n dX11_readChunks_110 rfl ?_
                  refine aw_iconst (v := 2) dX11_readChunks_111 (by decide) ?_
                  refine aw_aload_n dX11_readChunks_112 rfl ?_
                  refine aw_getf (v := .int (mr_pos s86)) dX11_readChunks_113 flX11_84_10 at_mod rfl ?_
                  refine aw_callV dX11_readChunks_116 at_mod cvX11_90 rfl (kF_X11_wrong mo mw s86 ms mt mu dd wi hi gt sp ta li sr co hb _  2 (mr_pos s86) (fon_ne hE hF)) rfl (Nat.le_of_ble_eq_true rfl) (by decide) (by decide) (by decide) (by decide) (fun _ _ _ hf => False.elim hf) (fun r116 h116 n116 hp116 => ?_)
                  obtain ⟨z116, s116, e116, rfl, rfl, rfl⟩ := hp116
                  replace hE := fon_ok e116 hE
                  obtain ⟨g119, hE⟩ := fgd hE hF
                  exact aw_zret dX11_readChunks_119 rfl (narB g119) (Nat.zero_le _) (Nat.zero_le _) (Nat.zero_le _) (Nat.zero_le _) ⟨_, _, hE.symm, rfl, rfl, rfl⟩
              · replace hE := fit hE c89
                refine aw_iconst (v := 0) dX11_readChunks_92 (by decide) ?_
                exact aw_zret dX11_readChunks_93 rfl (narB (by decide)) (Nat.zero_le _) (Nat.zero_le _) (Nat.zero_le _) (Nat.zero_le _) ⟨_, _, hE.symm, rfl, rfl, rfl⟩
            · replace hE := fit hE c61
              refine aw_aload_n dX11_readChunks_64 rfl ?_
              refine aw_iconst (v := 2) dX11_readChunks_65 (by decide) ?_
              refine aw_aload_n dX11_readChunks_66 rfl ?_
              refine aw_getf (v := .int (mr_pos s40)) dX11_readChunks_67 flX11_84_10 at_mod rfl ?_
              refine aw_callV dX11_readChunks_70 at_mod cvX11_90 rfl (kF_X11_wrong mo mw s40 ms mt mu dd wi hi gt sp ta li sr co hb _  2 (mr_pos s40) (fon_ne hE hF)) rfl (Nat.le_of_ble_eq_true rfl) (by decide) (by decide) (by decide) (by decide) (fun _ _ _ hf => False.elim hf) (fun r70 h70 n70 hp70 => ?_)
              obtain ⟨z70, s70, e70, rfl, rfl, rfl⟩ := hp70
              replace hE := fon_ok e70 hE
              obtain ⟨g73, hE⟩ := fgd hE hF
              exact aw_zret dX11_readChunks_73 rfl (narB g73) (Nat.zero_le _) (Nat.zero_le _) (Nat.zero_le _) (Nat.zero_le _) ⟨_, _, hE.symm, rfl, rfl, rfl⟩
          · replace hE := fit hE c43
            refine aw_iconst (v := 0) dX11_readChunks_46 (by decide) ?_
            exact aw_zret dX11_readChunks_47 rfl (narB (by decide)) (Nat.zero_le _) (Nat.zero_le _) (Nat.zero_le _) (Nat.zero_le _) ⟨_, _, hE.symm, rfl, rfl, rfl⟩
        · replace hE := fit hE c33
          exact aw_lv _ (fun _ h => absurd h List.not_mem_nil) (b_X11_readChunks_36 mo mw ms mt mu dd wi hi ta li sr co hb n hms  s30 gt sp _ hE hF)
