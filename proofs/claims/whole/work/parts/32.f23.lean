def P_X11_readPairs (mo : MO) (mw : MW) (ms : Nat) (mt : A) (mu : A) (dd : A) (wi : A) (hi : A) (sp : A) (ta : A) (li : A) (sr : A) (co : A) (hb : aH) (n : Nat) (res : Out (MR × A) Int32) : Option Value → aH → Nat → Prop := fun r1 h2 n2 => ∃ (a : Int32) (s : (MR × A)), res = fok a s ∧ r1 = some (.int a) ∧ h2 = HM mo mw s.1 ms mt mu dd wi hi s.2 sp ta li sr co hb ∧ n = n2
abbrev Q_X11_readPairs_2 (mo : MO) (mw : MW) (ms : Nat) (mt : A) (mu : A) (dd : A) (wi : A) (hi : A) (sp : A) (ta : A) (li : A) (sr : A) (co : A) (hb : aH) (n : Nat) (k : Int32 → MR → A → Out (MR × A) Int32) : Prop := ∀ (v1 : Int32) (mr : MR) (gt : A) (res : Out (MR × A) Int32), k v1 mr gt = res → res ≠ fno → AW (fun _ _ => True) mX11_readPairs (rmD 3 0 0) 0 0 (P_X11_readPairs mo mw ms mt mu dd wi hi sp ta li sr co hb n res) (fun _ _ _ => False) 0 0 2 [(0, .ref 31), (1, .int v1)] [] (HM mo mw mr ms mt mu dd wi hi gt sp ta li sr co hb) n
abbrev Q_X11_readPairs_39 (mo : MO) (mw : MW) (ms : Nat) (mt : A) (mu : A) (dd : A) (wi : A) (hi : A) (sp : A) (ta : A) (li : A) (sr : A) (co : A) (hb : aH) (n : Nat) (k : Int32 → Int32 → Int32 → MR → A → Out (MR × A) Int32) : Prop := ∀ (v1 : Int32) (v2 : Int32) (v3 : Int32) (mr : MR) (gt : A) (res : Out (MR × A) Int32), k v1 v2 v3 mr gt = res → res ≠ fno → AW (fun _ _ => True) mX11_readPairs (rmD 3 0 0) 0 0 (P_X11_readPairs mo mw ms mt mu dd wi hi sp ta li sr co hb n res) (fun _ _ _ => False) 0 0 39 [(0, .ref 31), (1, .int v1), (2, .int v2), (3, .int v3)] [] (HM mo mw mr ms mt mu dd wi hi gt sp ta li sr co hb) n
abbrev Q_X11_readPairs_115 (mo : MO) (mw : MW) (ms : Nat) (mt : A) (mu : A) (dd : A) (wi : A) (hi : A) (sp : A) (ta : A) (li : A) (sr : A) (co : A) (hb : aH) (n : Nat) (k : Int32 → MR → A → Out (MR × A) Int32) : Prop := ∀ (v4 : Int32) (mr : MR) (gt : A) (res : Out (MR × A) Int32), k v4 mr gt = res → res ≠ fno → AW (fun _ _ => True) mX11_readPairs (rmD 3 0 0) 0 0 (P_X11_readPairs mo mw ms mt mu dd wi hi sp ta li sr co hb n res) (fun _ _ _ => False) 0 0 115 [(0, .ref 31), (4, .int v4)] [] (HM mo mw mr ms mt mu dd wi hi gt sp ta li sr co hb) n
abbrev Q_X11_readPairs_126 (mo : MO) (mw : MW) (ms : Nat) (mt : A) (mu : A) (dd : A) (wi : A) (hi : A) (sp : A) (ta : A) (li : A) (sr : A) (co : A) (hb : aH) (n : Nat) (k : Int32 → Int32 → Int32 → Int32 → Int32 → Int32 → Int32 → MR → A → Out (MR × A) Int32) : Prop := ∀ (v1 : Int32) (v2 : Int32) (v3 : Int32) (v4 : Int32) (v5 : Int32) (v6 : Int32) (v7 : Int32) (mr : MR) (gt : A) (res : Out (MR × A) Int32), k v1 v2 v3 v4 v5 v6 v7 mr gt = res → res ≠ fno → AW (fun _ _ => True) mX11_readPairs (rmD 3 0 0) 0 0 (P_X11_readPairs mo mw ms mt mu dd wi hi sp ta li sr co hb n res) (fun _ _ _ => False) 0 0 126 [(0, .ref 31), (1, .int v1), (2, .int v2), (3, .int v3), (4, .int v4), (5, .int v5), (6, .int v6), (7, .int v7)] [] (HM mo mw mr ms mt mu dd wi hi gt sp ta li sr co hb) n
abbrev Q_X11_readPairs_165 (mo : MO) (mw : MW) (ms : Nat) (mt : A) (mu : A) (dd : A) (wi : A) (hi : A) (sp : A) (ta : A) (li : A) (sr : A) (co : A) (hb : aH) (n : Nat) (k : Int32 → Int32 → Int32 → Int32 → Int32 → Int32 → Int32 → Int32 → MR → A → Out (MR × A) Int32) : Prop := ∀ (v1 : Int32) (v2 : Int32) (v3 : Int32) (v4 : Int32) (v5 : Int32) (v6 : Int32) (v7 : Int32) (t0 : Int32) (mr : MR) (gt : A) (res : Out (MR × A) Int32), k v1 v2 v3 v4 v5 v6 v7 t0 mr gt = res → res ≠ fno → AW (fun _ _ => True) mX11_readPairs (rmD 3 0 0) 0 0 (P_X11_readPairs mo mw ms mt mu dd wi hi sp ta li sr co hb n res) (fun _ _ _ => False) 0 0 165 [(0, .ref 31), (1, .int v1), (2, .int v2), (3, .int v3), (4, .int v4), (5, .int v5), (6, .int v6), (7, .int v7)] [.int t0] (HM mo mw mr ms mt mu dd wi hi gt sp ta li sr co hb) n
abbrev Q_X11_readPairs_313 (mo : MO) (mw : MW) (ms : Nat) (mt : A) (mu : A) (dd : A) (wi : A) (hi : A) (sp : A) (ta : A) (li : A) (sr : A) (co : A) (hb : aH) (n : Nat) (k : Int32 → MR → A → Out (MR × A) Int32) : Prop := ∀ (v4 : Int32) (mr : MR) (gt : A) (res : Out (MR × A) Int32), k v4 mr gt = res → res ≠ fno → AW (fun _ _ => True) mX11_readPairs (rmD 3 0 0) 0 0 (P_X11_readPairs mo mw ms mt mu dd wi hi sp ta li sr co hb n res) (fun _ _ _ => False) 0 0 313 [(0, .ref 31), (4, .int v4)] [] (HM mo mw mr ms mt mu dd wi hi gt sp ta li sr co hb) n
abbrev Q_X11_readPairs_340 (mo : MO) (mw : MW) (ms : Nat) (mt : A) (mu : A) (dd : A) (wi : A) (hi : A) (sp : A) (ta : A) (li : A) (sr : A) (co : A) (hb : aH) (n : Nat) (k : Int32 → MR → A → Out (MR × A) Int32) : Prop := ∀ (v4 : Int32) (mr : MR) (gt : A) (res : Out (MR × A) Int32), k v4 mr gt = res → res ≠ fno → AW (fun _ _ => True) mX11_readPairs (rmD 3 0 0) 0 0 (P_X11_readPairs mo mw ms mt mu dd wi hi sp ta li sr co hb n res) (fun _ _ _ => False) 0 0 340 [(0, .ref 31), (4, .int v4)] [] (HM mo mw mr ms mt mu dd wi hi gt sp ta li sr co hb) n
abbrev Q_X11_readPairs_367 (mo : MO) (mw : MW) (ms : Nat) (mt : A) (mu : A) (dd : A) (wi : A) (hi : A) (sp : A) (ta : A) (li : A) (sr : A) (co : A) (hb : aH) (n : Nat) (k : Int32 → Int32 → Int32 → Int32 → Int32 → MR → A → Out (MR × A) Int32) : Prop := ∀ (v1 : Int32) (v2 : Int32) (v3 : Int32) (v6 : Int32) (t0 : Int32) (mr : MR) (gt : A) (res : Out (MR × A) Int32), k v1 v2 v3 v6 t0 mr gt = res → res ≠ fno → AW (fun _ _ => True) mX11_readPairs (rmD 3 0 0) 0 0 (P_X11_readPairs mo mw ms mt mu dd wi hi sp ta li sr co hb n res) (fun _ _ _ => False) 0 0 367 [(0, .ref 31), (1, .int v1), (2, .int v2), (3, .int v3), (6, .int v6)] [.int t0] (HM mo mw mr ms mt mu dd wi hi gt sp ta li sr co hb) n
abbrev Q_X11_readPairs_372 (mo : MO) (mw : MW) (ms : Nat) (mt : A) (mu : A) (dd : A) (wi : A) (hi : A) (sp : A) (ta : A) (li : A) (sr : A) (co : A) (hb : aH) (n : Nat) (k : Int32 → Int32 → Int32 → Int32 → Int32 → Int32 → MR → A → Out (MR × A) Int32) : Prop := ∀ (v1 : Int32) (v2 : Int32) (v3 : Int32) (v6 : Int32) (v7 : Int32) (v8 : Int32) (mr : MR) (gt : A) (res : Out (MR × A) Int32), k v1 v2 v3 v6 v7 v8 mr gt = res → res ≠ fno → AW (fun _ _ => True) mX11_readPairs (rmD 3 0 0) 0 0 (P_X11_readPairs mo mw ms mt mu dd wi hi sp ta li sr co hb n res) (fun _ _ _ => False) 0 0 372 [(0, .ref 31), (1, .int v1), (2, .int v2), (3, .int v3), (6, .int v6), (7, .int v7), (8, .int v8)] [] (HM mo mw mr ms mt mu dd wi hi gt sp ta li sr co hb) n
abbrev Q_X11_readPairs_394 (mo : MO) (mw : MW) (ms : Nat) (mt : A) (mu : A) (dd : A) (wi : A) (hi : A) (sp : A) (ta : A) (li : A) (sr : A) (co : A) (hb : aH) (n : Nat) (k : Int32 → Int32 → Int32 → Int32 → Int32 → Int32 → MR → A → Out (MR × A) Int32) : Prop := ∀ (v1 : Int32) (v2 : Int32) (v3 : Int32) (v6 : Int32) (v7 : Int32) (v8 : Int32) (mr : MR) (gt : A) (res : Out (MR × A) Int32), k v1 v2 v3 v6 v7 v8 mr gt = res → res ≠ fno → AW (fun _ _ => True) mX11_readPairs (rmD 3 0 0) 0 0 (P_X11_readPairs mo mw ms mt mu dd wi hi sp ta li sr co hb n res) (fun _ _ _ => False) 0 0 394 [(0, .ref 31), (1, .int v1), (2, .int v2), (3, .int v3), (6, .int v6), (7, .int v7), (8, .int v8)] [] (HM mo mw mr ms mt mu dd wi hi gt sp ta li sr co hb) n
abbrev Q_X11_readPairs_414 (mo : MO) (mw : MW) (ms : Nat) (mt : A) (mu : A) (dd : A) (wi : A) (hi : A) (sp : A) (ta : A) (li : A) (sr : A) (co : A) (hb : aH) (n : Nat) (k : Int32 → Int32 → Int32 → Int32 → Int32 → Int32 → MR → A → Out (MR × A) Int32) : Prop := ∀ (v1 : Int32) (v2 : Int32) (v3 : Int32) (v6 : Int32) (v7 : Int32) (v8 : Int32) (mr : MR) (gt : A) (res : Out (MR × A) Int32), k v1 v2 v3 v6 v7 v8 mr gt = res → res ≠ fno → AW (fun _ _ => True) mX11_readPairs (rmD 3 0 0) 0 0 (P_X11_readPairs mo mw ms mt mu dd wi hi sp ta li sr co hb n res) (fun _ _ _ => False) 0 0 414 [(0, .ref 31), (1, .int v1), (2, .int v2), (3, .int v3), (6, .int v6), (7, .int v7), (8, .int v8)] [] (HM mo mw mr ms mt mu dd wi hi gt sp ta li sr co hb) n
abbrev Q_X11_readPairs_458 (mo : MO) (mw : MW) (ms : Nat) (mt : A) (mu : A) (dd : A) (wi : A) (hi : A) (sp : A) (ta : A) (li : A) (sr : A) (co : A) (hb : aH) (n : Nat) (k : Int32 → Int32 → Int32 → Int32 → Int32 → Int32 → Int32 → MR → A → Out (MR × A) Int32) : Prop := ∀ (v1 : Int32) (v2 : Int32) (v3 : Int32) (v6 : Int32) (v7 : Int32) (v8 : Int32) (t0 : Int32) (mr : MR) (gt : A) (res : Out (MR × A) Int32), k v1 v2 v3 v6 v7 v8 t0 mr gt = res → res ≠ fno → AW (fun _ _ => True) mX11_readPairs (rmD 3 0 0) 0 0 (P_X11_readPairs mo mw ms mt mu dd wi hi sp ta li sr co hb n res) (fun _ _ _ => False) 0 0 458 [(0, .ref 31), (1, .int v1), (2, .int v2), (3, .int v3), (6, .int v6), (7, .int v7), (8, .int v8)] [.int t0] (HM mo mw mr ms mt mu dd wi hi gt sp ta li sr co hb) n
abbrev Q_X11_readPairs_527 (mo : MO) (mw : MW) (ms : Nat) (mt : A) (mu : A) (dd : A) (wi : A) (hi : A) (sp : A) (ta : A) (li : A) (sr : A) (co : A) (hb : aH) (n : Nat) (k : Int32 → Int32 → Int32 → MR → A → Out (MR × A) Int32) : Prop := ∀ (v1 : Int32) (v2 : Int32) (v3 : Int32) (mr : MR) (gt : A) (res : Out (MR × A) Int32), k v1 v2 v3 mr gt = res → res ≠ fno → AW (fun _ _ => True) mX11_readPairs (rmD 3 0 0) 0 0 (P_X11_readPairs mo mw ms mt mu dd wi hi sp ta li sr co hb n res) (fun _ _ _ => False) 0 0 527 [(0, .ref 31), (1, .int v1), (2, .int v2), (3, .int v3)] [] (HM mo mw mr ms mt mu dd wi hi gt sp ta li sr co hb) n
def F_X11_readPairs_527 (sb : A) (ta : A) (k39 : Int32 → Int32 → Int32 → MR → A → Out (MR × A) Int32) (v1 : Int32) (v2 : Int32) (v3 : Int32) (mr : MR) (gt : A) : Out (MR × A) Int32 := k39 v1 v2 v3 mr gt
set_option maxHeartbeats 1000000 in
set_option maxRecDepth 100000 in
theorem b_X11_readPairs_527 (mo : MO) (mw : MW) (ms : Nat) (mt : A) (mu : A) (dd : A) (wi : A) (hi : A) (sp : A) (ta : A) (li : A) (sr : A) (co : A) (hb : aH) (n : Nat) (hms : isMS ms) (k39 : Int32 → Int32 → Int32 → MR → A → Out (MR × A) Int32) (hk39 : Q_X11_readPairs_39 mo mw ms mt mu dd wi hi sp ta li sr co hb n k39) : Q_X11_readPairs_527 mo mw ms mt mu dd wi hi sp ta li sr co hb n (F_X11_readPairs_527 (srcB ms mt mu) ta k39) := by
  intro v1 v2 v3 mr gt res hE hF
  unfold F_X11_readPairs_527 at hE
  refine aw_goto (tgt := 39) dX11_readPairs_527 (by decide) ?_
  exact aw_lv _ (List.forall_mem_cons.mpr ⟨rfl, (List.forall_mem_cons.mpr ⟨rfl, (List.forall_mem_cons.mpr ⟨rfl, (List.forall_mem_cons.mpr ⟨rfl, fun _ h => absurd h List.not_mem_nil⟩)⟩)⟩)⟩) (hk39 v1 v2 v3 mr gt _ hE hF)
def F_X11_readPairs_458 (sb : A) (ta : A) (k39 : Int32 → Int32 → Int32 → MR → A → Out (MR × A) Int32) (k372 : Int32 → Int32 → Int32 → Int32 → Int32 → Int32 → MR → A → Out (MR × A) Int32) (v1 : Int32) (v2 : Int32) (v3 : Int32) (v6 : Int32) (v7 : Int32) (v8 : Int32) (t0 : Int32) (mr : MR) (gt : A) : Out (MR × A) Int32 := if t0 < (mr_three mr) then (fon (F_X11_put v1 v2 t0 mr gt ta) (fun z487 s487 => k372 (v1 + 1) v2 v3 v6 v7 (v8 + 1) mr s487) (fun _ _ => fno)) else (fon (F_X11_wrong 6 ((mr_pos mr) - 1) mr) (fun z478 s478 => if isB z478 then (fok (z478 : Int32) (s478, gt)) else fno) (fun _ _ => fno))
set_option maxHeartbeats 1000000 in
set_option maxRecDepth 100000 in
theorem b_X11_readPairs_458 (mo : MO) (mw : MW) (ms : Nat) (mt : A) (mu : A) (dd : A) (wi : A) (hi : A) (sp : A) (ta : A) (li : A) (sr : A) (co : A) (hb : aH) (n : Nat) (hms : isMS ms) (k39 : Int32 → Int32 → Int32 → MR → A → Out (MR × A) Int32) (hk39 : Q_X11_readPairs_39 mo mw ms mt mu dd wi hi sp ta li sr co hb n k39) (k372 : Int32 → Int32 → Int32 → Int32 → Int32 → Int32 → MR → A → Out (MR × A) Int32) (hk372 : Q_X11_readPairs_372 mo mw ms mt mu dd wi hi sp ta li sr co hb n k372) : Q_X11_readPairs_458 mo mw ms mt mu dd wi hi sp ta li sr co hb n (F_X11_readPairs_458 (srcB ms mt mu) ta k39 k372) := by
  intro v1 v2 v3 v6 v7 v8 t0 mr gt res hE hF
  unfold F_X11_readPairs_458 at hE
  refine aw_istore (lv2 := [(10, _), (0, _), (1, _), (2, _), (3, _), (6, _), (7, _), (8, _)]) dX11_readPairs_458 (by decide) rfl ?_
  refine aw_iload dX11_readPairs_460 rfl ?_
  refine aw_aload_n dX11_readPairs_462 rfl ?_
  refine aw_getf (v := .int (mr_three mr)) dX11_readPairs_463 flX11_136_10 at_mod rfl ?_
  refine aw_icmp_lt (tgt := 482) dX11_readPairs_466 (by decide) (fun c466 => ?_) (fun c466 => ?_)
  · replace hE := fit hE c466
    refine aw_aload_n dX11_readPairs_482 rfl ?_
    refine aw_iload_n dX11_readPairs_483 rfl ?_
    refine aw_iload_n dX11_readPairs_484 rfl ?_
    refine aw_iload dX11_readPairs_485 rfl ?_
    refine aw_callV dX11_readPairs_487 at_mod cvX11_204 rfl (kF_X11_put mo mw mr ms mt mu dd wi hi gt sp ta li sr co hb _  v1 v2 t0 (fon_ne hE hF)) rfl (Nat.le_of_ble_eq_true rfl) (by decide) (by decide) (by decide) (by decide) (fun _ _ _ hf => False.elim hf) (fun r487 h487 n487 hp487 => ?_)
    obtain ⟨z487, s487, e487, rfl, rfl, rfl⟩ := hp487
    replace hE := fon_ok e487 hE
    refine aw_iinc (v := (v1 + 1)) (lv2 := [(1, _), (10, _), (0, _), (2, _), (3, _), (6, _), (7, _), (8, _)]) dX11_readPairs_490 rfl (incE (by decide)) (by decide) rfl ?_
    refine aw_iinc (v := (v8 + 1)) (lv2 := [(8, _), (1, _), (10, _), (0, _), (2, _), (3, _), (6, _), (7, _)]) dX11_readPairs_493 rfl (incE (by decide)) (by decide) rfl ?_
    refine aw_goto (tgt := 372) dX11_readPairs_496 (by decide) ?_
    exact aw_lv _ (List.forall_mem_cons.mpr ⟨rfl, (List.forall_mem_cons.mpr ⟨rfl, (List.forall_mem_cons.mpr ⟨rfl, (List.forall_mem_cons.mpr ⟨rfl, (List.forall_mem_cons.mpr ⟨rfl, (List.forall_mem_cons.mpr ⟨rfl, (List.forall_mem_cons.mpr ⟨rfl, fun _ h => absurd h List.not_mem_nil⟩)⟩)⟩)⟩)⟩)⟩)⟩) (hk372 (v1 + 1) v2 v3 v6 v7 (v8 + 1) mr s487 _ hE hF)
  · replace hE := fif hE c466
    refine aw_aload_n dX11_readPairs_469 rfl ?_
    refine aw_bipush (v := 6) dX11_readPairs_470 (by decide) ?_
    refine aw_aload_n dX11_readPairs_472 rfl ?_
    refine aw_getf (v := .int (mr_pos mr)) dX11_readPairs_473 flX11_84_10 at_mod rfl ?_
    refine aw_iconst (v := 1) dX11_readPairs_476 (by decide) ?_
    refine aw_isub dX11_readPairs_477 ?_
    refine aw_callV dX11_readPairs_478 at_mod cvX11_90 rfl (kF_X11_wrong mo mw mr ms mt mu dd wi hi gt sp ta li sr co hb _  6 ((mr_pos mr) - 1) (fon_ne hE hF)) rfl (Nat.le_of_ble_eq_true rfl) (by decide) (by decide) (by decide) (by decide) (fun _ _ _ hf => False.elim hf) (fun r478 h478 n478 hp478 => ?_)
    obtain ⟨z478, s478, e478, rfl, rfl, rfl⟩ := hp478
    replace hE := fon_ok e478 hE
    obtain ⟨g481, hE⟩ := fgd hE hF
    exact aw_zret dX11_readPairs_481 rfl (narB g481) (Nat.zero_le _) (Nat.zero_le _) (Nat.zero_le _) (Nat.zero_le _) ⟨_, _, hE.symm, rfl, rfl, rfl⟩
def F_X11_readPairs_414 (sb : A) (ta : A) (k39 : Int32 → Int32 → Int32 → MR → A → Out (MR × A) Int32) (k372 : Int32 → Int32 → Int32 → Int32 → Int32 → Int32 → MR → A → Out (MR × A) Int32) (v1 : Int32) (v2 : Int32) (v3 : Int32) (v6 : Int32) (v7 : Int32) (v8 : Int32) (mr : MR) (gt : A) : Out (MR × A) Int32 := fon (F_X11_b ((mr_pos mr) - 1) sb) (fun z421 s421 => if (mr_two mr) = 1 then (F_X11_readPairs_458 sb ta k39 k372 v1 v2 v3 v6 v7 v8 z421 mr gt) else (if (v8 - v8 / 2 * 2) = 0 then (F_X11_readPairs_458 sb ta k39 k372 v1 v2 v3 v6 v7 v8 (z421 >>> ((4 : Int32) &&& 31)) mr gt) else (F_X11_readPairs_458 sb ta k39 k372 v1 v2 v3 v6 v7 v8 (z421 &&& 15) mr gt))) (fun _ _ => fno)
set_option maxHeartbeats 1000000 in
set_option maxRecDepth 100000 in
theorem b_X11_readPairs_414 (mo : MO) (mw : MW) (ms : Nat) (mt : A) (mu : A) (dd : A) (wi : A) (hi : A) (sp : A) (ta : A) (li : A) (sr : A) (co : A) (hb : aH) (n : Nat) (hms : isMS ms) (k39 : Int32 → Int32 → Int32 → MR → A → Out (MR × A) Int32) (hk39 : Q_X11_readPairs_39 mo mw ms mt mu dd wi hi sp ta li sr co hb n k39) (k372 : Int32 → Int32 → Int32 → Int32 → Int32 → Int32 → MR → A → Out (MR × A) Int32) (hk372 : Q_X11_readPairs_372 mo mw ms mt mu dd wi hi sp ta li sr co hb n k372) : Q_X11_readPairs_414 mo mw ms mt mu dd wi hi sp ta li sr co hb n (F_X11_readPairs_414 (srcB ms mt mu) ta k39 k372) := by
  intro v1 v2 v3 v6 v7 v8 mr gt res hE hF
  unfold F_X11_readPairs_414 at hE
  refine aw_aload_n dX11_readPairs_414 rfl ?_
  refine aw_aload_n dX11_readPairs_415 rfl ?_
  refine aw_getf (v := .int (mr_pos mr)) dX11_readPairs_416 flX11_84_10 at_mod rfl ?_
  refine aw_iconst (v := 1) dX11_readPairs_419 (by decide) ?_
  refine aw_isub dX11_readPairs_420 ?_
  refine aw_callV dX11_readPairs_421 at_mod cvX11_99 rfl (kF_X11_b mo mw mr ms mt mu dd wi hi gt sp ta li sr co hb _ hms ((mr_pos mr) - 1) (fon_ne hE hF)) rfl (Nat.le_of_ble_eq_true rfl) (by decide) (by decide) (by decide) (by decide) (fun _ _ _ hf => False.elim hf) (fun r421 h421 n421 hp421 => ?_)
  obtain ⟨z421, s421, e421, rfl, rfl, rfl⟩ := hp421
  replace hE := fon_ok e421 hE
  refine aw_istore (lv2 := [(9, _), (0, _), (1, _), (2, _), (3, _), (6, _), (7, _), (8, _)]) dX11_readPairs_424 (by decide) rfl ?_
  refine aw_aload_n dX11_readPairs_426 rfl ?_
  refine aw_getf (v := .int (mr_two mr)) dX11_readPairs_427 flX11_133_10 at_mod rfl ?_
  refine aw_iconst (v := 1) dX11_readPairs_430 (by decide) ?_
  refine aw_icmp_ne (tgt := 439) dX11_readPairs_431 (by decide) (fun c431 => ?_) (fun c431 => ?_)
  · replace hE := fif hE c431
    refine aw_iload dX11_readPairs_439 rfl ?_
    refine aw_iconst (v := 2) dX11_readPairs_441 (by decide) ?_
    refine aw_irem dX11_readPairs_442 (by decide) ?_
    refine aw_if_ne (tgt := 453) dX11_readPairs_443 (by decide) (fun c443 => ?_) (fun c443 => ?_)
    · replace hE := fif hE c443
      refine aw_iload dX11_readPairs_453 rfl ?_
      refine aw_bipush (v := 15) dX11_readPairs_455 (by decide) ?_
      refine aw_iand dX11_readPairs_457 ?_
      exact aw_lv _ (List.forall_mem_cons.mpr ⟨rfl, (List.forall_mem_cons.mpr ⟨rfl, (List.forall_mem_cons.mpr ⟨rfl, (List.forall_mem_cons.mpr ⟨rfl, (List.forall_mem_cons.mpr ⟨rfl, (List.forall_mem_cons.mpr ⟨rfl, (List.forall_mem_cons.mpr ⟨rfl, fun _ h => absurd h List.not_mem_nil⟩)⟩)⟩)⟩)⟩)⟩)⟩) (b_X11_readPairs_458 mo mw ms mt mu dd wi hi sp ta li sr co hb n hms k39 hk39 k372 hk372 v1 v2 v3 v6 v7 v8 (z421 &&& 15) mr gt _ hE hF)
    · replace hE := fit hE c443
      refine aw_iload dX11_readPairs_446 rfl ?_
      refine aw_iconst (v := 4) dX11_readPairs_448 (by decide) ?_
      refine aw_ishr dX11_readPairs_449 ?_
      refine aw_goto (tgt := 458) dX11_readPairs_450 (by decide) ?_
      exact aw_lv _ (List.forall_mem_cons.mpr ⟨rfl, (List.forall_mem_cons.mpr ⟨rfl, (List.forall_mem_cons.mpr ⟨rfl, (List.forall_mem_cons.mpr ⟨rfl, (List.forall_mem_cons.mpr ⟨rfl, (List.forall_mem_cons.mpr ⟨rfl, (List.forall_mem_cons.mpr ⟨rfl, fun _ h => absurd h List.not_mem_nil⟩)⟩)⟩)⟩)⟩)⟩)⟩) (b_X11_readPairs_458 mo mw ms mt mu dd wi hi sp ta li sr co hb n hms k39 hk39 k372 hk372 v1 v2 v3 v6 v7 v8 (z421 >>> ((4 : Int32) &&& 31)) mr gt _ hE hF)
  · replace hE := fit hE c431
    refine aw_iload dX11_readPairs_434 rfl ?_
    refine aw_goto (tgt := 458) dX11_readPairs_436 (by decide) ?_
    exact aw_lv _ (List.forall_mem_cons.mpr ⟨rfl, (List.forall_mem_cons.mpr ⟨rfl, (List.forall_mem_cons.mpr ⟨rfl, (List.forall_mem_cons.mpr ⟨rfl, (List.forall_mem_cons.mpr ⟨rfl, (List.forall_mem_cons.mpr ⟨rfl, (List.forall_mem_cons.mpr ⟨rfl, fun _ h => absurd h List.not_mem_nil⟩)⟩)⟩)⟩)⟩)⟩)⟩) (b_X11_readPairs_458 mo mw ms mt mu dd wi hi sp ta li sr co hb n hms k39 hk39 k372 hk372 v1 v2 v3 v6 v7 v8 z421 mr gt _ hE hF)
def F_X11_readPairs_394 (sb : A) (ta : A) (k39 : Int32 → Int32 → Int32 → MR → A → Out (MR × A) Int32) (k372 : Int32 → Int32 → Int32 → Int32 → Int32 → Int32 → MR → A → Out (MR × A) Int32) (v1 : Int32) (v2 : Int32) (v3 : Int32) (v6 : Int32) (v7 : Int32) (v8 : Int32) (mr : MR) (gt : A) : Out (MR × A) Int32 := fon (F_X11_want 1 mr) (fun z396 s396 => if z396 = 0 then (fok (0 : Int32) (s396, gt)) else (F_X11_readPairs_414 sb ta k39 k372 v1 v2 v3 v6 v7 v8 ((mr_size s396), ((mr_pos s396) + 1), (mr_kind s396), (mr_whr s396), (mr_gw s396), (mr_gh s396), (mr_one s396), (mr_two s396), (mr_three s396)) gt)) (fun _ _ => fno)
set_option maxHeartbeats 1000000 in
set_option maxRecDepth 100000 in
theorem b_X11_readPairs_394 (mo : MO) (mw : MW) (ms : Nat) (mt : A) (mu : A) (dd : A) (wi : A) (hi : A) (sp : A) (ta : A) (li : A) (sr : A) (co : A) (hb : aH) (n : Nat) (hms : isMS ms) (k39 : Int32 → Int32 → Int32 → MR → A → Out (MR × A) Int32) (hk39 : Q_X11_readPairs_39 mo mw ms mt mu dd wi hi sp ta li sr co hb n k39) (k372 : Int32 → Int32 → Int32 → Int32 → Int32 → Int32 → MR → A → Out (MR × A) Int32) (hk372 : Q_X11_readPairs_372 mo mw ms mt mu dd wi hi sp ta li sr co hb n k372) : Q_X11_readPairs_394 mo mw ms mt mu dd wi hi sp ta li sr co hb n (F_X11_readPairs_394 (srcB ms mt mu) ta k39 k372) := by
  intro v1 v2 v3 v6 v7 v8 mr gt res hE hF
  unfold F_X11_readPairs_394 at hE
  refine aw_aload_n dX11_readPairs_394 rfl ?_
  refine aw_iconst (v := 1) dX11_readPairs_395 (by decide) ?_
  refine aw_callV dX11_readPairs_396 at_mod cvX11_103 rfl (kF_X11_want mo mw mr ms mt mu dd wi hi gt sp ta li sr co hb _  1 (fon_ne hE hF)) rfl (Nat.le_of_ble_eq_true rfl) (by decide) (by decide) (by decide) (by decide) (fun _ _ _ hf => False.elim hf) (fun r396 h396 n396 hp396 => ?_)
  obtain ⟨z396, s396, e396, rfl, rfl, rfl⟩ := hp396
  replace hE := fon_ok e396 hE
  refine aw_if_ne (tgt := 404) dX11_readPairs_399 (by decide) (fun c399 => ?_) (fun c399 => ?_)
  · replace hE := fif hE c399
    refine aw_aload_n dX11_readPairs_404 rfl ?_
    refine aw_dup dX11_readPairs_405 rfl ?_
    refine aw_getf (v := .int (mr_pos s396)) dX11_readPairs_406 flX11_84_10 at_mod rfl ?_
    refine aw_iconst (v := 1) dX11_readPairs_409 (by decide) ?_
    refine aw_iadd dX11_readPairs_410 ?_
    refine aw_putf dX11_readPairs_411 ptX11_84_10 at_mod (Nat.le_of_ble_eq_true rfl) ⟨rfl, rfl⟩ ?_
    refine aw_eqh (h2 := HM mo mw ((mr_size s396), ((mr_pos s396) + 1), (mr_kind s396), (mr_whr s396), (mr_gw s396), (mr_gh s396), (mr_one s396), (mr_two s396), (mr_three s396)) ms mt mu dd wi hi gt sp ta li sr co hb) up_mod ?_
    exact aw_lv _ (List.forall_mem_cons.mpr ⟨rfl, (List.forall_mem_cons.mpr ⟨rfl, (List.forall_mem_cons.mpr ⟨rfl, (List.forall_mem_cons.mpr ⟨rfl, (List.forall_mem_cons.mpr ⟨rfl, (List.forall_mem_cons.mpr ⟨rfl, (List.forall_mem_cons.mpr ⟨rfl, fun _ h => absurd h List.not_mem_nil⟩)⟩)⟩)⟩)⟩)⟩)⟩) (b_X11_readPairs_414 mo mw ms mt mu dd wi hi sp ta li sr co hb n hms k39 hk39 k372 hk372 v1 v2 v3 v6 v7 v8 ((mr_size s396), ((mr_pos s396) + 1), (mr_kind s396), (mr_whr s396), (mr_gw s396), (mr_gh s396), (mr_one s396), (mr_two s396), (mr_three s396)) gt _ hE hF)
  · replace hE := fit hE c399
    refine aw_iconst (v := 0) dX11_readPairs_402 (by decide) ?_
    exact aw_zret dX11_readPairs_403 rfl (narB (by decide)) (Nat.zero_le _) (Nat.zero_le _) (Nat.zero_le _) (Nat.zero_le _) ⟨_, _, hE.symm, rfl, rfl, rfl⟩
def F_X11_readPairs_372 (sb : A) (ta : A) (k39 : Int32 → Int32 → Int32 → MR → A → Out (MR × A) Int32) (k372 : Int32 → Int32 → Int32 → Int32 → Int32 → Int32 → MR → A → Out (MR × A) Int32) (v1 : Int32) (v2 : Int32) (v3 : Int32) (v6 : Int32) (v7 : Int32) (v8 : Int32) (mr : MR) (gt : A) : Out (MR × A) Int32 := if v6 ≤ v8 then (if (v7 - v7 / 2 * 2) = 1 then (fon (F_X11_want 1 mr) (fun z509 s509 => if z509 = 0 then (fok (0 : Int32) (s509, gt)) else (F_X11_readPairs_527 sb ta k39 v1 v2 v3 ((mr_size s509), ((mr_pos s509) + 1), (mr_kind s509), (mr_whr s509), (mr_gw s509), (mr_gh s509), (mr_one s509), (mr_two s509), (mr_three s509)) gt)) (fun _ _ => fno)) else (F_X11_readPairs_527 sb ta k39 v1 v2 v3 mr gt)) else (if (mr_two mr) = 1 then (F_X11_readPairs_394 sb ta k39 k372 v1 v2 v3 v6 v7 v8 mr gt) else (if (v8 - v8 / 2 * 2) = 0 then (F_X11_readPairs_394 sb ta k39 k372 v1 v2 v3 v6 v7 v8 mr gt) else (F_X11_readPairs_414 sb ta k39 k372 v1 v2 v3 v6 v7 v8 mr gt)))
set_option maxHeartbeats 1000000 in
set_option maxRecDepth 100000 in
theorem b_X11_readPairs_372 (mo : MO) (mw : MW) (ms : Nat) (mt : A) (mu : A) (dd : A) (wi : A) (hi : A) (sp : A) (ta : A) (li : A) (sr : A) (co : A) (hb : aH) (n : Nat) (hms : isMS ms) (k39 : Int32 → Int32 → Int32 → MR → A → Out (MR × A) Int32) (hk39 : Q_X11_readPairs_39 mo mw ms mt mu dd wi hi sp ta li sr co hb n k39) (k372 : Int32 → Int32 → Int32 → Int32 → Int32 → Int32 → MR → A → Out (MR × A) Int32) (hk372 : Q_X11_readPairs_372 mo mw ms mt mu dd wi hi sp ta li sr co hb n k372) : Q_X11_readPairs_372 mo mw ms mt mu dd wi hi sp ta li sr co hb n (F_X11_readPairs_372 (srcB ms mt mu) ta k39 k372) := by
  intro v1 v2 v3 v6 v7 v8 mr gt res hE hF
  unfold F_X11_readPairs_372 at hE
  refine aw_iload dX11_readPairs_372 rfl ?_
  refine aw_iload dX11_readPairs_374 rfl ?_
  refine aw_icmp_ge (tgt := 499) dX11_readPairs_376 (by decide) (fun c376 => ?_) (fun c376 => ?_)
  · replace hE := fit hE c376
    refine aw_iload dX11_readPairs_499 rfl ?_
    refine aw_iconst (v := 2) dX11_readPairs_501 (by decide) ?_
    refine aw_irem dX11_readPairs_502 (by decide) ?_
    refine aw_iconst (v := 1) dX11_readPairs_503 (by decide) ?_
    refine aw_icmp_ne (tgt := 527) dX11_readPairs_504 (by decide) (fun c504 => ?_) (fun c504 => ?_)
    · replace hE := fif hE c504
      exact aw_lv _ (List.forall_mem_cons.mpr ⟨rfl, (List.forall_mem_cons.mpr ⟨rfl, (List.forall_mem_cons.mpr ⟨rfl, (List.forall_mem_cons.mpr ⟨rfl, fun _ h => absurd h List.not_mem_nil⟩)⟩)⟩)⟩) (b_X11_readPairs_527 mo mw ms mt mu dd wi hi sp ta li sr co hb n hms k39 hk39 v1 v2 v3 mr gt _ hE hF)
    · replace hE := fit hE c504
      refine aw_aload_n dX11_readPairs_507 rfl ?_
      refine aw_iconst (v := 1) dX11_readPairs_508 (by decide) ?_
      refine aw_callV dX11_readPairs_509 at_mod cvX11_103 rfl (kF_X11_want mo mw mr ms mt mu dd wi hi gt sp ta li sr co hb _  1 (fon_ne hE hF)) rfl (Nat.le_of_ble_eq_true rfl) (by decide) (by decide) (by decide) (by decide) (fun _ _ _ hf => False.elim hf) (fun r509 h509 n509 hp509 => ?_)
      obtain ⟨z509, s509, e509, rfl, rfl, rfl⟩ := hp509
      replace hE := fon_ok e509 hE
      refine aw_if_ne (tgt := 517) dX11_readPairs_512 (by decide) (fun c512 => ?_) (fun c512 => ?_)
      · replace hE := fif hE c512
        refine aw_aload_n dX11_readPairs_517 rfl ?_
        refine aw_dup dX11_readPairs_518 rfl ?_
        refine aw_getf (v := .int (mr_pos s509)) dX11_readPairs_519 flX11_84_10 at_mod rfl ?_
        refine aw_iconst (v := 1) dX11_readPairs_522 (by decide) ?_
        refine aw_iadd dX11_readPairs_523 ?_
        refine aw_putf dX11_readPairs_524 ptX11_84_10 at_mod (Nat.le_of_ble_eq_true rfl) ⟨rfl, rfl⟩ ?_
        refine aw_eqh (h2 := HM mo mw ((mr_size s509), ((mr_pos s509) + 1), (mr_kind s509), (mr_whr s509), (mr_gw s509), (mr_gh s509), (mr_one s509), (mr_two s509), (mr_three s509)) ms mt mu dd wi hi gt sp ta li sr co hb) up_mod ?_
        exact aw_lv _ (List.forall_mem_cons.mpr ⟨rfl, (List.forall_mem_cons.mpr ⟨rfl, (List.forall_mem_cons.mpr ⟨rfl, (List.forall_mem_cons.mpr ⟨rfl, fun _ h => absurd h List.not_mem_nil⟩)⟩)⟩)⟩) (b_X11_readPairs_527 mo mw ms mt mu dd wi hi sp ta li sr co hb n hms k39 hk39 v1 v2 v3 ((mr_size s509), ((mr_pos s509) + 1), (mr_kind s509), (mr_whr s509), (mr_gw s509), (mr_gh s509), (mr_one s509), (mr_two s509), (mr_three s509)) gt _ hE hF)
      · replace hE := fit hE c512
        refine aw_iconst (v := 0) dX11_readPairs_515 (by decide) ?_
        exact aw_zret dX11_readPairs_516 rfl (narB (by decide)) (Nat.zero_le _) (Nat.zero_le _) (Nat.zero_le _) (Nat.zero_le _) ⟨_, _, hE.symm, rfl, rfl, rfl⟩
  · replace hE := fif hE c376
    refine aw_aload_n dX11_readPairs_379 rfl ?_
    refine aw_getf (v := .int (mr_two mr)) dX11_readPairs_380 flX11_133_10 at_mod rfl ?_
    refine aw_iconst (v := 1) dX11_readPairs_383 (by decide) ?_
    refine aw_icmp_eq (tgt := 394) dX11_readPairs_384 (by decide) (fun c384 => ?_) (fun c384 => ?_)
    · replace hE := fit hE c384
      exact aw_lv _ (List.forall_mem_cons.mpr ⟨rfl, (List.forall_mem_cons.mpr ⟨rfl, (List.forall_mem_cons.mpr ⟨rfl, (List.forall_mem_cons.mpr ⟨rfl, (List.forall_mem_cons.mpr ⟨rfl, (List.forall_mem_cons.mpr ⟨rfl, (List.forall_mem_cons.mpr ⟨rfl, fun _ h => absurd h List.not_mem_nil⟩)⟩)⟩)⟩)⟩)⟩)⟩) (b_X11_readPairs_394 mo mw ms mt mu dd wi hi sp ta li sr co hb n hms k39 hk39 k372 hk372 v1 v2 v3 v6 v7 v8 mr gt _ hE hF)
    · replace hE := fif hE c384
      refine aw_iload dX11_readPairs_387 rfl ?_
      refine aw_iconst (v := 2) dX11_readPairs_389 (by decide) ?_
      refine aw_irem dX11_readPairs_390 (by decide) ?_
      refine aw_if_ne (tgt := 414) dX11_readPairs_391 (by decide) (fun c391 => ?_) (fun c391 => ?_)
      · replace hE := fif hE c391
        exact aw_lv _ (List.forall_mem_cons.mpr ⟨rfl, (List.forall_mem_cons.mpr ⟨rfl, (List.forall_mem_cons.mpr ⟨rfl, (List.forall_mem_cons.mpr ⟨rfl, (List.forall_mem_cons.mpr ⟨rfl, (List.forall_mem_cons.mpr ⟨rfl, (List.forall_mem_cons.mpr ⟨rfl, fun _ h => absurd h List.not_mem_nil⟩)⟩)⟩)⟩)⟩)⟩)⟩) (b_X11_readPairs_414 mo mw ms mt mu dd wi hi sp ta li sr co hb n hms k39 hk39 k372 hk372 v1 v2 v3 v6 v7 v8 mr gt _ hE hF)
      · replace hE := fit hE c391
        exact aw_lv _ (List.forall_mem_cons.mpr ⟨rfl, (List.forall_mem_cons.mpr ⟨rfl, (List.forall_mem_cons.mpr ⟨rfl, (List.forall_mem_cons.mpr ⟨rfl, (List.forall_mem_cons.mpr ⟨rfl, (List.forall_mem_cons.mpr ⟨rfl, (List.forall_mem_cons.mpr ⟨rfl, fun _ h => absurd h List.not_mem_nil⟩)⟩)⟩)⟩)⟩)⟩)⟩) (b_X11_readPairs_394 mo mw ms mt mu dd wi hi sp ta li sr co hb n hms k39 hk39 k372 hk372 v1 v2 v3 v6 v7 v8 mr gt _ hE hF)
def F_X11_readPairs_367 (sb : A) (ta : A) (k39 : Int32 → Int32 → Int32 → MR → A → Out (MR × A) Int32) (v1 : Int32) (v2 : Int32) (v3 : Int32) (v6 : Int32) (t0 : Int32) (mr : MR) (gt : A) : Out (MR × A) Int32 := lp (fun _ _ _ _ _ _ _ _ => fno) (F_X11_readPairs_372 sb ta k39) FU v1 v2 v3 v6 t0 (0 : Int32) mr gt
set_option maxHeartbeats 1000000 in
set_option maxRecDepth 100000 in
theorem b_X11_readPairs_367 (mo : MO) (mw : MW) (ms : Nat) (mt : A) (mu : A) (dd : A) (wi : A) (hi : A) (sp : A) (ta : A) (li : A) (sr : A) (co : A) (hb : aH) (n : Nat) (hms : isMS ms) (k39 : Int32 → Int32 → Int32 → MR → A → Out (MR × A) Int32) (hk39 : Q_X11_readPairs_39 mo mw ms mt mu dd wi hi sp ta li sr co hb n k39) : Q_X11_readPairs_367 mo mw ms mt mu dd wi hi sp ta li sr co hb n (F_X11_readPairs_367 (srcB ms mt mu) ta k39) := by
  intro v1 v2 v3 v6 t0 mr gt res hE hF
  unfold F_X11_readPairs_367 at hE
  refine aw_istore (lv2 := [(7, _), (0, _), (1, _), (2, _), (3, _), (6, _)]) dX11_readPairs_367 (by decide) rfl ?_
  refine aw_iconst (v := 0) dX11_readPairs_369 (by decide) ?_
  refine aw_istore (lv2 := [(8, _), (7, _), (0, _), (1, _), (2, _), (3, _), (6, _)]) dX11_readPairs_370 (by decide) rfl ?_
  exact aw_lv _ (List.forall_mem_cons.mpr ⟨rfl, (List.forall_mem_cons.mpr ⟨rfl, (List.forall_mem_cons.mpr ⟨rfl, (List.forall_mem_cons.mpr ⟨rfl, (List.forall_mem_cons.mpr ⟨rfl, (List.forall_mem_cons.mpr ⟨rfl, (List.forall_mem_cons.mpr ⟨rfl, fun _ h => absurd h List.not_mem_nil⟩)⟩)⟩)⟩)⟩)⟩)⟩) (lp_ind (Q_X11_readPairs_372 mo mw ms mt mu dd wi hi sp ta li sr co hb n) (fun _ _ _ _ _ _ _ _ res hq hF => (hF hq.symm).elim) (fun k hk => b_X11_readPairs_372 mo mw ms mt mu dd wi hi sp ta li sr co hb n hms k39 hk39 k hk) FU v1 v2 v3 v6 t0 (0 : Int32) mr gt _ hE hF)
def F_X11_readPairs_340 (sb : A) (ta : A)  (v4 : Int32) (mr : MR) (gt : A) : Out (MR × A) Int32 := fon (F_X11_wrong 4 v4 mr) (fun z344 s344 => if isB z344 then (fok (z344 : Int32) (s344, gt)) else fno) (fun _ _ => fno)
set_option maxHeartbeats 1000000 in
set_option maxRecDepth 100000 in
theorem b_X11_readPairs_340 (mo : MO) (mw : MW) (ms : Nat) (mt : A) (mu : A) (dd : A) (wi : A) (hi : A) (sp : A) (ta : A) (li : A) (sr : A) (co : A) (hb : aH) (n : Nat) (hms : isMS ms)  : Q_X11_readPairs_340 mo mw ms mt mu dd wi hi sp ta li sr co hb n (F_X11_readPairs_340 (srcB ms mt mu) ta) := by
  intro v4 mr gt res hE hF
  unfold F_X11_readPairs_340 at hE
  refine aw_aload_n dX11_readPairs_340 rfl ?_
  refine aw_iconst (v := 4) dX11_readPairs_341 (by decide) ?_
  refine aw_iload dX11_readPairs_342 rfl ?_
  refine aw_callV dX11_readPairs_344 at_mod cvX11_90 rfl (kF_X11_wrong mo mw mr ms mt mu dd wi hi gt sp ta li sr co hb _  4 v4 (fon_ne hE hF)) rfl (Nat.le_of_ble_eq_true rfl) (by decide) (by decide) (by decide) (by decide) (fun _ _ _ hf => False.elim hf) (fun r344 h344 n344 hp344 => ?_)
  obtain ⟨z344, s344, e344, rfl, rfl, rfl⟩ := hp344
  replace hE := fon_ok e344 hE
  obtain ⟨g347, hE⟩ := fgd hE hF
  exact aw_zret dX11_readPairs_347 rfl (narB g347) (Nat.zero_le _) (Nat.zero_le _) (Nat.zero_le _) (Nat.zero_le _) ⟨_, _, hE.symm, rfl, rfl, rfl⟩
def F_X11_readPairs_313 (sb : A) (ta : A)  (v4 : Int32) (mr : MR) (gt : A) : Out (MR × A) Int32 := fon (F_X11_wrong 4 v4 mr) (fun z317 s317 => if isB z317 then (fok (z317 : Int32) (s317, gt)) else fno) (fun _ _ => fno)
set_option maxHeartbeats 1000000 in
set_option maxRecDepth 100000 in
theorem b_X11_readPairs_313 (mo : MO) (mw : MW) (ms : Nat) (mt : A) (mu : A) (dd : A) (wi : A) (hi : A) (sp : A) (ta : A) (li : A) (sr : A) (co : A) (hb : aH) (n : Nat) (hms : isMS ms)  : Q_X11_readPairs_313 mo mw ms mt mu dd wi hi sp ta li sr co hb n (F_X11_readPairs_313 (srcB ms mt mu) ta) := by
  intro v4 mr gt res hE hF
  unfold F_X11_readPairs_313 at hE
  refine aw_aload_n dX11_readPairs_313 rfl ?_
  refine aw_iconst (v := 4) dX11_readPairs_314 (by decide) ?_
  refine aw_iload dX11_readPairs_315 rfl ?_
  refine aw_callV dX11_readPairs_317 at_mod cvX11_90 rfl (kF_X11_wrong mo mw mr ms mt mu dd wi hi gt sp ta li sr co hb _  4 v4 (fon_ne hE hF)) rfl (Nat.le_of_ble_eq_true rfl) (by decide) (by decide) (by decide) (by decide) (fun _ _ _ hf => False.elim hf) (fun r317 h317 n317 hp317 => ?_)
  obtain ⟨z317, s317, e317, rfl, rfl, rfl⟩ := hp317
  replace hE := fon_ok e317 hE
  obtain ⟨g320, hE⟩ := fgd hE hF
  exact aw_zret dX11_readPairs_320 rfl (narB g320) (Nat.zero_le _) (Nat.zero_le _) (Nat.zero_le _) (Nat.zero_le _) ⟨_, _, hE.symm, rfl, rfl, rfl⟩
def F_X11_readPairs_165 (sb : A) (ta : A) (k39 : Int32 → Int32 → Int32 → MR → A → Out (MR × A) Int32) (k126 : Int32 → Int32 → Int32 → Int32 → Int32 → Int32 → Int32 → MR → A → Out (MR × A) Int32) (v1 : Int32) (v2 : Int32) (v3 : Int32) (v4 : Int32) (v5 : Int32) (v6 : Int32) (v7 : Int32) (t0 : Int32) (mr : MR) (gt : A) : Out (MR × A) Int32 := if t0 < (mr_three mr) then (fon (F_X11_put v1 v2 t0 mr gt ta) (fun z192 s192 => k126 (v1 + 1) v2 v3 v4 v5 v6 (v7 + 1) mr s192) (fun _ _ => fno)) else (fon (F_X11_wrong 6 (v4 + 1) mr) (fun z183 s183 => if isB z183 then (fok (z183 : Int32) (s183, gt)) else fno) (fun _ _ => fno))
set_option maxHeartbeats 1000000 in
set_option maxRecDepth 100000 in
theorem b_X11_readPairs_165 (mo : MO) (mw : MW) (ms : Nat) (mt : A) (mu : A) (dd : A) (wi : A) (hi : A) (sp : A) (ta : A) (li : A) (sr : A) (co : A) (hb : aH) (n : Nat) (hms : isMS ms) (k39 : Int32 → Int32 → Int32 → MR → A → Out (MR × A) Int32) (hk39 : Q_X11_readPairs_39 mo mw ms mt mu dd wi hi sp ta li sr co hb n k39) (k126 : Int32 → Int32 → Int32 → Int32 → Int32 → Int32 → Int32 → MR → A → Out (MR × A) Int32) (hk126 : Q_X11_readPairs_126 mo mw ms mt mu dd wi hi sp ta li sr co hb n k126) : Q_X11_readPairs_165 mo mw ms mt mu dd wi hi sp ta li sr co hb n (F_X11_readPairs_165 (srcB ms mt mu) ta k39 k126) := by
  intro v1 v2 v3 v4 v5 v6 v7 t0 mr gt res hE hF
  unfold F_X11_readPairs_165 at hE
  refine aw_istore (lv2 := [(8, _), (0, _), (1, _), (2, _), (3, _), (4, _), (5, _), (6, _), (7, _)]) dX11_readPairs_165 (by decide) rfl ?_
  refine aw_iload dX11_readPairs_167 rfl ?_
  refine aw_aload_n dX11_readPairs_169 rfl ?_
  refine aw_getf (v := .int (mr_three mr)) dX11_readPairs_170 flX11_136_10 at_mod rfl ?_
  refine aw_icmp_lt (tgt := 187) dX11_readPairs_173 (by decide) (fun c173 => ?_) (fun c173 => ?_)
  · replace hE := fit hE c173
    refine aw_aload_n dX11_readPairs_187 rfl ?_
    refine aw_iload_n dX11_readPairs_188 rfl ?_
    refine aw_iload_n dX11_readPairs_189 rfl ?_
    refine aw_iload dX11_readPairs_190 rfl ?_
    refine aw_callV dX11_readPairs_192 at_mod cvX11_204 rfl (kF_X11_put mo mw mr ms mt mu dd wi hi gt sp ta li sr co hb _  v1 v2 t0 (fon_ne hE hF)) rfl (Nat.le_of_ble_eq_true rfl) (by decide) (by decide) (by decide) (by decide) (fun _ _ _ hf => False.elim hf) (fun r192 h192 n192 hp192 => ?_)
    obtain ⟨z192, s192, e192, rfl, rfl, rfl⟩ := hp192
    replace hE := fon_ok e192 hE
    refine aw_iinc (v := (v1 + 1)) (lv2 := [(1, _), (8, _), (0, _), (2, _), (3, _), (4, _), (5, _), (6, _), (7, _)]) dX11_readPairs_195 rfl (incE (by decide)) (by decide) rfl ?_
    refine aw_iinc (v := (v7 + 1)) (lv2 := [(7, _), (1, _), (8, _), (0, _), (2, _), (3, _), (4, _), (5, _), (6, _)]) dX11_readPairs_198 rfl (incE (by decide)) (by decide) rfl ?_
    refine aw_goto (tgt := 126) dX11_readPairs_201 (by decide) ?_
    exact aw_lv _ (List.forall_mem_cons.mpr ⟨rfl, (List.forall_mem_cons.mpr ⟨rfl, (List.forall_mem_cons.mpr ⟨rfl, (List.forall_mem_cons.mpr ⟨rfl, (List.forall_mem_cons.mpr ⟨rfl, (List.forall_mem_cons.mpr ⟨rfl, (List.forall_mem_cons.mpr ⟨rfl, (List.forall_mem_cons.mpr ⟨rfl, fun _ h => absurd h List.not_mem_nil⟩)⟩)⟩)⟩)⟩)⟩)⟩)⟩) (hk126 (v1 + 1) v2 v3 v4 v5 v6 (v7 + 1) mr s192 _ hE hF)
  · replace hE := fif hE c173
    refine aw_aload_n dX11_readPairs_176 rfl ?_
    refine aw_bipush (v := 6) dX11_readPairs_177 (by decide) ?_
    refine aw_iload dX11_readPairs_179 rfl ?_
    refine aw_iconst (v := 1) dX11_readPairs_181 (by decide) ?_
    refine aw_iadd dX11_readPairs_182 ?_
    refine aw_callV dX11_readPairs_183 at_mod cvX11_90 rfl (kF_X11_wrong mo mw mr ms mt mu dd wi hi gt sp ta li sr co hb _  6 (v4 + 1) (fon_ne hE hF)) rfl (Nat.le_of_ble_eq_true rfl) (by decide) (by decide) (by decide) (by decide) (fun _ _ _ hf => False.elim hf) (fun r183 h183 n183 hp183 => ?_)
    obtain ⟨z183, s183, e183, rfl, rfl, rfl⟩ := hp183
    replace hE := fon_ok e183 hE
    obtain ⟨g186, hE⟩ := fgd hE hF
    exact aw_zret dX11_readPairs_186 rfl (narB g186) (Nat.zero_le _) (Nat.zero_le _) (Nat.zero_le _) (Nat.zero_le _) ⟨_, _, hE.symm, rfl, rfl, rfl⟩
def F_X11_readPairs_126 (sb : A) (ta : A) (k39 : Int32 → Int32 → Int32 → MR → A → Out (MR × A) Int32) (k126 : Int32 → Int32 → Int32 → Int32 → Int32 → Int32 → Int32 → MR → A → Out (MR × A) Int32) (v1 : Int32) (v2 : Int32) (v3 : Int32) (v4 : Int32) (v5 : Int32) (v6 : Int32) (v7 : Int32) (mr : MR) (gt : A) : Out (MR × A) Int32 := if v5 ≤ v7 then (F_X11_readPairs_527 sb ta k39 v1 v2 v3 mr gt) else (if (mr_two mr) = 1 then (F_X11_readPairs_165 sb ta k39 k126 v1 v2 v3 v4 v5 v6 v7 v6 mr gt) else (if (v7 - v7 / 2 * 2) = 0 then (F_X11_readPairs_165 sb ta k39 k126 v1 v2 v3 v4 v5 v6 v7 (v6 >>> ((4 : Int32) &&& 31)) mr gt) else (F_X11_readPairs_165 sb ta k39 k126 v1 v2 v3 v4 v5 v6 v7 (v6 &&& 15) mr gt)))
set_option maxHeartbeats 1000000 in
set_option maxRecDepth 100000 in
theorem b_X11_readPairs_126 (mo : MO) (mw : MW) (ms : Nat) (mt : A) (mu : A) (dd : A) (wi : A) (hi : A) (sp : A) (ta : A) (li : A) (sr : A) (co : A) (hb : aH) (n : Nat) (hms : isMS ms) (k39 : Int32 → Int32 → Int32 → MR → A → Out (MR × A) Int32) (hk39 : Q_X11_readPairs_39 mo mw ms mt mu dd wi hi sp ta li sr co hb n k39) (k126 : Int32 → Int32 → Int32 → Int32 → Int32 → Int32 → Int32 → MR → A → Out (MR × A) Int32) (hk126 : Q_X11_readPairs_126 mo mw ms mt mu dd wi hi sp ta li sr co hb n k126) : Q_X11_readPairs_126 mo mw ms mt mu dd wi hi sp ta li sr co hb n (F_X11_readPairs_126 (srcB ms mt mu) ta k39 k126) := by
  intro v1 v2 v3 v4 v5 v6 v7 mr gt res hE hF
  unfold F_X11_readPairs_126 at hE
  refine aw_iload dX11_readPairs_126 rfl ?_
  refine aw_iload dX11_readPairs_128 rfl ?_
  refine aw_icmp_ge (tgt := 204) dX11_readPairs_130 (by decide) (fun c130 => ?_) (fun c130 => ?_)
  · replace hE := fit hE c130
    refine aw_goto (tgt := 527) dX11_readPairs_204 (by decide) ?_
    exact aw_lv _ (List.forall_mem_cons.mpr ⟨rfl, (List.forall_mem_cons.mpr ⟨rfl, (List.forall_mem_cons.mpr ⟨rfl, (List.forall_mem_cons.mpr ⟨rfl, fun _ h => absurd h List.not_mem_nil⟩)⟩)⟩)⟩) (b_X11_readPairs_527 mo mw ms mt mu dd wi hi sp ta li sr co hb n hms k39 hk39 v1 v2 v3 mr gt _ hE hF)
  · replace hE := fif hE c130
    refine aw_aload_n dX11_readPairs_133 rfl ?_
    refine aw_getf (v := .int (mr_two mr)) dX11_readPairs_134 flX11_133_10 at_mod rfl ?_
    refine aw_iconst (v := 1) dX11_readPairs_137 (by decide) ?_
    refine aw_icmp_ne (tgt := 146) dX11_readPairs_138 (by decide) (fun c138 => ?_) (fun c138 => ?_)
    · replace hE := fif hE c138
      refine aw_iload dX11_readPairs_146 rfl ?_
      refine aw_iconst (v := 2) dX11_readPairs_148 (by decide) ?_
      refine aw_irem dX11_readPairs_149 (by decide) ?_
      refine aw_if_ne (tgt := 160) dX11_readPairs_150 (by decide) (fun c150 => ?_) (fun c150 => ?_)
      · replace hE := fif hE c150
        refine aw_iload dX11_readPairs_160 rfl ?_
        refine aw_bipush (v := 15) dX11_readPairs_162 (by decide) ?_
        refine aw_iand dX11_readPairs_164 ?_
        exact aw_lv _ (List.forall_mem_cons.mpr ⟨rfl, (List.forall_mem_cons.mpr ⟨rfl, (List.forall_mem_cons.mpr ⟨rfl, (List.forall_mem_cons.mpr ⟨rfl, (List.forall_mem_cons.mpr ⟨rfl, (List.forall_mem_cons.mpr ⟨rfl, (List.forall_mem_cons.mpr ⟨rfl, (List.forall_mem_cons.mpr ⟨rfl, fun _ h => absurd h List.not_mem_nil⟩)⟩)⟩)⟩)⟩)⟩)⟩)⟩) (b_X11_readPairs_165 mo mw ms mt mu dd wi hi sp ta li sr co hb n hms k39 hk39 k126 hk126 v1 v2 v3 v4 v5 v6 v7 (v6 &&& 15) mr gt _ hE hF)
      · replace hE := fit hE c150
        refine aw_iload dX11_readPairs_153 rfl ?_
        refine aw_iconst (v := 4) dX11_readPairs_155 (by decide) ?_
        refine aw_ishr dX11_readPairs_156 ?_
        refine aw_goto (tgt := 165) dX11_readPairs_157 (by decide) ?_
        exact aw_lv _ (List.forall_mem_cons.mpr ⟨rfl, (List.forall_mem_cons.mpr ⟨rfl, (List.forall_mem_cons.mpr ⟨rfl, (List.forall_mem_cons.mpr ⟨rfl, (List.forall_mem_cons.mpr ⟨rfl, (List.forall_mem_cons.mpr ⟨rfl, (List.forall_mem_cons.mpr ⟨rfl, (List.forall_mem_cons.mpr ⟨rfl, fun _ h => absurd h List.not_mem_nil⟩)⟩)⟩)⟩)⟩)⟩)⟩)⟩) (b_X11_readPairs_165 mo mw ms mt mu dd wi hi sp ta li sr co hb n hms k39 hk39 k126 hk126 v1 v2 v3 v4 v5 v6 v7 (v6 >>> ((4 : Int32) &&& 31)) mr gt _ hE hF)
    · replace hE := fit hE c138
      refine aw_iload dX11_readPairs_141 rfl ?_
      refine aw_goto (tgt := 165) dX11_readPairs_143 (by decide) ?_
      exact aw_lv _ (List.forall_mem_cons.mpr ⟨rfl, (List.forall_mem_cons.mpr ⟨rfl, (List.forall_mem_cons.mpr ⟨rfl, (List.forall_mem_cons.mpr ⟨rfl, (List.forall_mem_cons.mpr ⟨rfl, (List.forall_mem_cons.mpr ⟨rfl, (List.forall_mem_cons.mpr ⟨rfl, (List.forall_mem_cons.mpr ⟨rfl, fun _ h => absurd h List.not_mem_nil⟩)⟩)⟩)⟩)⟩)⟩)⟩)⟩) (b_X11_readPairs_165 mo mw ms mt mu dd wi hi sp ta li sr co hb n hms k39 hk39 k126 hk126 v1 v2 v3 v4 v5 v6 v7 v6 mr gt _ hE hF)
def F_X11_readPairs_115 (sb : A) (ta : A)  (v4 : Int32) (mr : MR) (gt : A) : Out (MR × A) Int32 := fon (F_X11_wrong 4 v4 mr) (fun z119 s119 => if isB z119 then (fok (z119 : Int32) (s119, gt)) else fno) (fun _ _ => fno)
set_option maxHeartbeats 1000000 in
set_option maxRecDepth 100000 in
theorem b_X11_readPairs_115 (mo : MO) (mw : MW) (ms : Nat) (mt : A) (mu : A) (dd : A) (wi : A) (hi : A) (sp : A) (ta : A) (li : A) (sr : A) (co : A) (hb : aH) (n : Nat) (hms : isMS ms)  : Q_X11_readPairs_115 mo mw ms mt mu dd wi hi sp ta li sr co hb n (F_X11_readPairs_115 (srcB ms mt mu) ta) := by
  intro v4 mr gt res hE hF
  unfold F_X11_readPairs_115 at hE
  refine aw_aload_n dX11_readPairs_115 rfl ?_
  refine aw_iconst (v := 4) dX11_readPairs_116 (by decide) ?_
  refine aw_iload dX11_readPairs_117 rfl ?_
  refine aw_callV dX11_readPairs_119 at_mod cvX11_90 rfl (kF_X11_wrong mo mw mr ms mt mu dd wi hi gt sp ta li sr co hb _  4 v4 (fon_ne hE hF)) rfl (Nat.le_of_ble_eq_true rfl) (by decide) (by decide) (by decide) (by decide) (fun _ _ _ hf => False.elim hf) (fun r119 h119 n119 hp119 => ?_)
  obtain ⟨z119, s119, e119, rfl, rfl, rfl⟩ := hp119
  replace hE := fon_ok e119 hE
  obtain ⟨g122, hE⟩ := fgd hE hF
  exact aw_zret dX11_readPairs_122 rfl (narB g122) (Nat.zero_le _) (Nat.zero_le _) (Nat.zero_le _) (Nat.zero_le _) ⟨_, _, hE.symm, rfl, rfl, rfl⟩
def F_X11_readPairs_39 (sb : A) (ta : A) (k39 : Int32 → Int32 → Int32 → MR → A → Out (MR × A) Int32) (v1 : Int32) (v2 : Int32) (v3 : Int32) (mr : MR) (gt : A) : Out (MR × A) Int32 := if v3 = 0 then (fon (F_X11_closes mr) (fun z531 s531 => if isB z531 then (fok (z531 : Int32) (s531, gt)) else fno) (fun _ _ => fno)) else (fon (F_X11_want 2 mr) (fun z45 s45 => if z45 = 0 then (fok (0 : Int32) (s45, gt)) else (fon (F_X11_b (mr_pos s45) sb) (fun z64 s64 => fon (F_X11_b ((mr_pos s45) + 1) sb) (fun z76 s76 => if z64 ≤ 0 then (if z76 = 0 then (if v2 < (mr_gh s45) then (F_X11_readPairs_527 sb ta k39 (0 : Int32) (v2 + 1) v3 ((mr_size s45), ((mr_pos s45) + 2), (mr_kind s45), (mr_whr s45), (mr_gw s45), (mr_gh s45), (mr_one s45), (mr_two s45), (mr_three s45)) gt) else (fon (F_X11_wrong 4 (mr_pos s45) ((mr_size s45), ((mr_pos s45) + 2), (mr_kind s45), (mr_whr s45), (mr_gw s45), (mr_gh s45), (mr_one s45), (mr_two s45), (mr_three s45))) (fun z224 s224 => if isB z224 then (fok (z224 : Int32) (s224, gt)) else fno) (fun _ _ => fno))) else (if z76 = 1 then (F_X11_readPairs_527 sb ta k39 v1 v2 (0 : Int32) ((mr_size s45), ((mr_pos s45) + 2), (mr_kind s45), (mr_whr s45), (mr_gw s45), (mr_gh s45), (mr_one s45), (mr_two s45), (mr_three s45)) gt) else (if z76 = 2 then (fon (F_X11_want 2 ((mr_size s45), ((mr_pos s45) + 2), (mr_kind s45), (mr_whr s45), (mr_gw s45), (mr_gh s45), (mr_one s45), (mr_two s45), (mr_three s45))) (fun z255 s255 => if z255 = 0 then (fok (0 : Int32) (s255, gt)) else (fon (F_X11_b (mr_pos s255) sb) (fun z269 s269 => fon (F_X11_b ((mr_pos s255) + 1) sb) (fun z282 s282 => if (mr_gw s255) < (v1 + z269) then (F_X11_readPairs_313 sb ta (mr_pos s45) ((mr_size s255), ((mr_pos s255) + 2), (mr_kind s255), (mr_whr s255), (mr_gw s255), (mr_gh s255), (mr_one s255), (mr_two s255), (mr_three s255)) gt) else (if (v2 + z282) < (mr_gh s255) then (F_X11_readPairs_527 sb ta k39 (v1 + z269) (v2 + z282) v3 ((mr_size s255), ((mr_pos s255) + 2), (mr_kind s255), (mr_whr s255), (mr_gw s255), (mr_gh s255), (mr_one s255), (mr_two s255), (mr_three s255)) gt) else (F_X11_readPairs_313 sb ta (mr_pos s45) ((mr_size s255), ((mr_pos s255) + 2), (mr_kind s255), (mr_whr s255), (mr_gw s255), (mr_gh s255), (mr_one s255), (mr_two s255), (mr_three s255)) gt))) (fun _ _ => fno)) (fun _ _ => fno))) (fun _ _ => fno)) else (if (mr_gh s45) ≤ v2 then (F_X11_readPairs_340 sb ta (mr_pos s45) ((mr_size s45), ((mr_pos s45) + 2), (mr_kind s45), (mr_whr s45), (mr_gw s45), (mr_gh s45), (mr_one s45), (mr_two s45), (mr_three s45)) gt) else (if (v1 + z76) ≤ (mr_gw s45) then (if (mr_two s45) = 1 then (F_X11_readPairs_367 sb ta k39 v1 v2 v3 z76 z76 ((mr_size s45), ((mr_pos s45) + 2), (mr_kind s45), (mr_whr s45), (mr_gw s45), (mr_gh s45), (mr_one s45), (mr_two s45), (mr_three s45)) gt) else (F_X11_readPairs_367 sb ta k39 v1 v2 v3 z76 ((z76 + 1) / 2) ((mr_size s45), ((mr_pos s45) + 2), (mr_kind s45), (mr_whr s45), (mr_gw s45), (mr_gh s45), (mr_one s45), (mr_two s45), (mr_three s45)) gt)) else (F_X11_readPairs_340 sb ta (mr_pos s45) ((mr_size s45), ((mr_pos s45) + 2), (mr_kind s45), (mr_whr s45), (mr_gw s45), (mr_gh s45), (mr_one s45), (mr_two s45), (mr_three s45)) gt)))))) else (if (mr_gh s45) ≤ v2 then (F_X11_readPairs_115 sb ta (mr_pos s45) ((mr_size s45), ((mr_pos s45) + 2), (mr_kind s45), (mr_whr s45), (mr_gw s45), (mr_gh s45), (mr_one s45), (mr_two s45), (mr_three s45)) gt) else (if (v1 + z64) ≤ (mr_gw s45) then (lp (fun _ _ _ _ _ _ _ _ _ => fno) (F_X11_readPairs_126 sb ta k39) FU v1 v2 v3 (mr_pos s45) z64 z76 (0 : Int32) ((mr_size s45), ((mr_pos s45) + 2), (mr_kind s45), (mr_whr s45), (mr_gw s45), (mr_gh s45), (mr_one s45), (mr_two s45), (mr_three s45)) gt) else (F_X11_readPairs_115 sb ta (mr_pos s45) ((mr_size s45), ((mr_pos s45) + 2), (mr_kind s45), (mr_whr s45), (mr_gw s45), (mr_gh s45), (mr_one s45), (mr_two s45), (mr_three s45)) gt)))) (fun _ _ => fno)) (fun _ _ => fno))) (fun _ _ => fno))
set_option maxHeartbeats 1000000 in
set_option maxRecDepth 100000 in
theorem b_X11_readPairs_39 (mo : MO) (mw : MW) (ms : Nat) (mt : A) (mu : A) (dd : A) (wi : A) (hi : A) (sp : A) (ta : A) (li : A) (sr : A) (co : A) (hb : aH) (n : Nat) (hms : isMS ms) (k39 : Int32 → Int32 → Int32 → MR → A → Out (MR × A) Int32) (hk39 : Q_X11_readPairs_39 mo mw ms mt mu dd wi hi sp ta li sr co hb n k39) : Q_X11_readPairs_39 mo mw ms mt mu dd wi hi sp ta li sr co hb n (F_X11_readPairs_39 (srcB ms mt mu) ta k39) := by
  intro v1 v2 v3 mr gt res hE hF
  unfold F_X11_readPairs_39 at hE
  refine aw_iload_n dX11_readPairs_39 rfl ?_
  refine aw_if_eq (tgt := 530) dX11_readPairs_40 (by decide) (fun c40 => ?_) (fun c40 => ?_)
  · replace hE := fit hE c40
    refine aw_aload_n dX11_readPairs_530 rfl ?_
    refine aw_callV dX11_readPairs_531 at_mod cvX11_145 rfl (kF_X11_closes mo mw mr ms mt mu dd wi hi gt sp ta li sr co hb _   (fon_ne hE hF)) rfl (Nat.le_of_ble_eq_true rfl) (by decide) (by decide) (by decide) (by decide) (fun _ _ _ hf => False.elim hf) (fun r531 h531 n531 hp531 => ?_)
    obtain ⟨z531, s531, e531, rfl, rfl, rfl⟩ := hp531
    replace hE := fon_ok e531 hE
    obtain ⟨g534, hE⟩ := fgd hE hF
    exact aw_zret dX11_readPairs_534 rfl (narB g534) (Nat.zero_le _) (Nat.zero_le _) (Nat.zero_le _) (Nat.zero_le _) ⟨_, _, hE.symm, rfl, rfl, rfl⟩
  · replace hE := fif hE c40
    refine aw_aload_n dX11_readPairs_43 rfl ?_
    refine aw_iconst (v := 2) dX11_readPairs_44 (by decide) ?_
    refine aw_callV dX11_readPairs_45 at_mod cvX11_103 rfl (kF_X11_want mo mw mr ms mt mu dd wi hi gt sp ta li sr co hb _  2 (fon_ne hE hF)) rfl (Nat.le_of_ble_eq_true rfl) (by decide) (by decide) (by decide) (by decide) (fun _ _ _ hf => False.elim hf) (fun r45 h45 n45 hp45 => ?_)
    obtain ⟨z45, s45, e45, rfl, rfl, rfl⟩ := hp45
    replace hE := fon_ok e45 hE
    refine aw_if_ne (tgt := 53) dX11_readPairs_48 (by decide) (fun c48 => ?_) (fun c48 => ?_)
    · replace hE := fif hE c48
      refine aw_aload_n dX11_readPairs_53 rfl ?_
      refine aw_getf (v := .int (mr_pos s45)) dX11_readPairs_54 flX11_84_10 at_mod rfl ?_
      refine aw_istore (lv2 := [(4, _), (0, _), (1, _), (2, _), (3, _)]) dX11_readPairs_57 (by decide) rfl ?_
      refine aw_aload_n dX11_readPairs_59 rfl ?_
      refine aw_aload_n dX11_readPairs_60 rfl ?_
      refine aw_getf (v := .int (mr_pos s45)) dX11_readPairs_61 flX11_84_10 at_mod rfl ?_
      refine aw_callV dX11_readPairs_64 at_mod cvX11_99 rfl (kF_X11_b mo mw s45 ms mt mu dd wi hi gt sp ta li sr co hb _ hms (mr_pos s45) (fon_ne hE hF)) rfl (Nat.le_of_ble_eq_true rfl) (by decide) (by decide) (by decide) (by decide) (fun _ _ _ hf => False.elim hf) (fun r64 h64 n64 hp64 => ?_)
      obtain ⟨z64, s64, e64, rfl, rfl, rfl⟩ := hp64
      replace hE := fon_ok e64 hE
      refine aw_istore (lv2 := [(5, _), (4, _), (0, _), (1, _), (2, _), (3, _)]) dX11_readPairs_67 (by decide) rfl ?_
      refine aw_aload_n dX11_readPairs_69 rfl ?_
      refine aw_aload_n dX11_readPairs_70 rfl ?_
      refine aw_getf (v := .int (mr_pos s45)) dX11_readPairs_71 flX11_84_10 at_mod rfl ?_
      refine aw_iconst (v := 1) dX11_readPairs_74 (by decide) ?_
      refine aw_iadd dX11_readPairs_75 ?_
      refine aw_callV dX11_readPairs_76 at_mod cvX11_99 rfl (kF_X11_b mo mw s45 ms mt mu dd wi hi gt sp ta li sr co hb _ hms ((mr_pos s45) + 1) (fon_ne hE hF)) rfl (Nat.le_of_ble_eq_true rfl) (by decide) (by decide) (by decide) (by decide) (fun _ _ _ hf => False.elim hf) (fun r76 h76 n76 hp76 => ?_)
      obtain ⟨z76, s76, e76, rfl, rfl, rfl⟩ := hp76
      replace hE := fon_ok e76 hE
      refine aw_istore (lv2 := [(6, _), (5, _), (4, _), (0, _), (1, _), (2, _), (3, _)]) dX11_readPairs_79 (by decide) rfl ?_
      refine aw_aload_n dX11_readPairs_81 rfl ?_
      refine aw_dup dX11_readPairs_82 rfl ?_
      refine aw_getf (v := .int (mr_pos s45)) dX11_readPairs_83 flX11_84_10 at_mod rfl ?_
      refine aw_iconst (v := 2) dX11_readPairs_86 (by decide) ?_
      refine aw_iadd dX11_readPairs_87 ?_
      refine aw_putf dX11_readPairs_88 ptX11_84_10 at_mod (Nat.le_of_ble_eq_true rfl) ⟨rfl, rfl⟩ ?_
      refine aw_eqh (h2 := HM mo mw ((mr_size s45), ((mr_pos s45) + 2), (mr_kind s45), (mr_whr s45), (mr_gw s45), (mr_gh s45), (mr_one s45), (mr_two s45), (mr_three s45)) ms mt mu dd wi hi gt sp ta li sr co hb) up_mod ?_
      refine aw_iload dX11_readPairs_91 rfl ?_
      refine aw_if_le (tgt := 207) dX11_readPairs_93 (by decide) (fun c93 => ?_) (fun c93 => ?_)
      · replace hE := fit hE c93
        refine aw_iload dX11_readPairs_207 rfl ?_
        refine aw_if_ne (tgt := 236) dX11_readPairs_209 (by decide) (fun c209 => ?_) (fun c209 => ?_)
        · replace hE := fif hE c209
          refine aw_iload dX11_readPairs_236 rfl ?_
          refine aw_iconst (v := 1) dX11_readPairs_238 (by decide) ?_
          refine aw_icmp_ne (tgt := 247) dX11_readPairs_239 (by decide) (fun c239 => ?_) (fun c239 => ?_)
          · replace hE := fif hE c239
            refine aw_iload dX11_readPairs_247 rfl ?_
            refine aw_iconst (v := 2) dX11_readPairs_249 (by decide) ?_
            refine aw_icmp_ne (tgt := 321) dX11_readPairs_250 (by decide) (fun c250 => ?_) (fun c250 => ?_)
            · replace hE := fif hE c250
              refine aw_iload_n dX11_readPairs_321 rfl ?_
              refine aw_aload_n dX11_readPairs_322 rfl ?_
              refine aw_getf (v := .int (mr_gh s45)) dX11_readPairs_323 flX11_112_10 at_mod rfl ?_
              refine aw_icmp_ge (tgt := 340) dX11_readPairs_326 (by decide) (fun c326 => ?_) (fun c326 => ?_)
              · replace hE := fit hE c326
                exact aw_lv _ (List.forall_mem_cons.mpr ⟨rfl, (List.forall_mem_cons.mpr ⟨rfl, fun _ h => absurd h List.not_mem_nil⟩)⟩) (b_X11_readPairs_340 mo mw ms mt mu dd wi hi sp ta li sr co hb n hms  (mr_pos s45) ((mr_size s45), ((mr_pos s45) + 2), (mr_kind s45), (mr_whr s45), (mr_gw s45), (mr_gh s45), (mr_one s45), (mr_two s45), (mr_three s45)) gt _ hE hF)
              · replace hE := fif hE c326
                refine aw_iload_n dX11_readPairs_329 rfl ?_
                refine aw_iload dX11_readPairs_330 rfl ?_
                refine aw_iadd dX11_readPairs_332 ?_
                refine aw_aload_n dX11_readPairs_333 rfl ?_
                refine aw_getf (v := .int (mr_gw s45)) dX11_readPairs_334 flX11_109_10 at_mod rfl ?_
                refine aw_icmp_le (tgt := 348) dX11_readPairs_337 (by decide) (fun c337 => ?_) (fun c337 => ?_)
                · replace hE := fit hE c337
                  refine aw_aload_n dX11_readPairs_348 rfl ?_
                  refine aw_getf (v := .int (mr_two s45)) dX11_readPairs_349 flX11_133_10 at_mod rfl ?_
                  refine aw_iconst (v := 1) dX11_readPairs_352 (by decide) ?_
                  refine aw_icmp_ne (tgt := 361) dX11_readPairs_353 (by decide) (fun c353 => ?_) (fun c353 => ?_)
                  · replace hE := fif hE c353
                    refine aw_iload dX11_readPairs_361 rfl ?_
                    refine aw_iconst (v := 1) dX11_readPairs_363 (by decide) ?_
                    refine aw_iadd dX11_readPairs_364 ?_
                    refine aw_iconst (v := 2) dX11_readPairs_365 (by decide) ?_
                    refine aw_idiv dX11_readPairs_366 (by decide) ?_
                    exact aw_lv _ (List.forall_mem_cons.mpr ⟨rfl, (List.forall_mem_cons.mpr ⟨rfl, (List.forall_mem_cons.mpr ⟨rfl, (List.forall_mem_cons.mpr ⟨rfl, (List.forall_mem_cons.mpr ⟨rfl, fun _ h => absurd h List.not_mem_nil⟩)⟩)⟩)⟩)⟩) (b_X11_readPairs_367 mo mw ms mt mu dd wi hi sp ta li sr co hb n hms k39 hk39 v1 v2 v3 z76 ((z76 + 1) / 2) ((mr_size s45), ((mr_pos s45) + 2), (mr_kind s45), (mr_whr s45), (mr_gw s45), (mr_gh s45), (mr_one s45), (mr_two s45), (mr_three s45)) gt _ hE hF)
                  · replace hE := fit hE c353
                    refine aw_iload dX11_readPairs_356 rfl ?_
                    refine aw_goto (tgt := 367) dX11_readPairs_358 (by decide) ?_
                    exact aw_lv _ (List.forall_mem_cons.mpr ⟨rfl, (List.forall_mem_cons.mpr ⟨rfl, (List.forall_mem_cons.mpr ⟨rfl, (List.forall_mem_cons.mpr ⟨rfl, (List.forall_mem_cons.mpr ⟨rfl, fun _ h => absurd h List.not_mem_nil⟩)⟩)⟩)⟩)⟩) (b_X11_readPairs_367 mo mw ms mt mu dd wi hi sp ta li sr co hb n hms k39 hk39 v1 v2 v3 z76 z76 ((mr_size s45), ((mr_pos s45) + 2), (mr_kind s45), (mr_whr s45), (mr_gw s45), (mr_gh s45), (mr_one s45), (mr_two s45), (mr_three s45)) gt _ hE hF)
                · replace hE := fif hE c337
                  exact aw_lv _ (List.forall_mem_cons.mpr ⟨rfl, (List.forall_mem_cons.mpr ⟨rfl, fun _ h => absurd h List.not_mem_nil⟩)⟩) (b_X11_readPairs_340 mo mw ms mt mu dd wi hi sp ta li sr co hb n hms  (mr_pos s45) ((mr_size s45), ((mr_pos s45) + 2), (mr_kind s45), (mr_whr s45), (mr_gw s45), (mr_gh s45), (mr_one s45), (mr_two s45), (mr_three s45)) gt _ hE hF)
            · replace hE := fit hE c250
              refine aw_aload_n dX11_readPairs_253 rfl ?_
              refine aw_iconst (v := 2) dX11_readPairs_254 (by decide) ?_
              refine aw_callV dX11_readPairs_255 at_mod cvX11_103 rfl (kF_X11_want mo mw ((mr_size s45), ((mr_pos s45) + 2), (mr_kind s45), (mr_whr s45), (mr_gw s45), (mr_gh s45), (mr_one s45), (mr_two s45), (mr_three s45)) ms mt mu dd wi hi gt sp ta li sr co hb _  2 (fon_ne hE hF)) rfl (Nat.le_of_ble_eq_true rfl) (by decide) (by decide) (by decide) (by decide) (fun _ _ _ hf => False.elim hf) (fun r255 h255 n255 hp255 => ?_)
              obtain ⟨z255, s255, e255, rfl, rfl, rfl⟩ := hp255
              replace hE := fon_ok e255 hE
              refine aw_if_ne (tgt := 263) dX11_readPairs_258 (by decide) (fun c258 => ?_) (fun c258 => ?_)
              · replace hE := fif hE c258
                refine aw_iload_n dX11_readPairs_263 rfl ?_
                refine aw_aload_n dX11_readPairs_264 rfl ?_
                refine aw_aload_n dX11_readPairs_265 rfl ?_
                refine aw_getf (v := .int (mr_pos s255)) dX11_readPairs_266 flX11_84_10 at_mod rfl ?_
                refine aw_callV dX11_readPairs_269 at_mod cvX11_99 rfl (kF_X11_b mo mw s255 ms mt mu dd wi hi gt sp ta li sr co hb _ hms (mr_pos s255) (fon_ne hE hF)) rfl (Nat.le_of_ble_eq_true rfl) (by decide) (by decide) (by decide) (by decide) (fun _ _ _ hf => False.elim hf) (fun r269 h269 n269 hp269 => ?_)
                obtain ⟨z269, s269, e269, rfl, rfl, rfl⟩ := hp269
                replace hE := fon_ok e269 hE
                refine aw_iadd dX11_readPairs_272 ?_
                refine aw_istore_n (lv2 := [(1, _), (6, _), (5, _), (4, _), (0, _), (2, _), (3, _)]) dX11_readPairs_273 (by decide) rfl ?_
                refine aw_iload_n dX11_readPairs_274 rfl ?_
                refine aw_aload_n dX11_readPairs_275 rfl ?_
                refine aw_aload_n dX11_readPairs_276 rfl ?_
                refine aw_getf (v := .int (mr_pos s255)) dX11_readPairs_277 flX11_84_10 at_mod rfl ?_
                refine aw_iconst (v := 1) dX11_readPairs_280 (by decide) ?_
                refine aw_iadd dX11_readPairs_281 ?_
                refine aw_callV dX11_readPairs_282 at_mod cvX11_99 rfl (kF_X11_b mo mw s255 ms mt mu dd wi hi gt sp ta li sr co hb _ hms ((mr_pos s255) + 1) (fon_ne hE hF)) rfl (Nat.le_of_ble_eq_true rfl) (by decide) (by decide) (by decide) (by decide) (fun _ _ _ hf => False.elim hf) (fun r282 h282 n282 hp282 => ?_)
                obtain ⟨z282, s282, e282, rfl, rfl, rfl⟩ := hp282
                replace hE := fon_ok e282 hE
                refine aw_iadd dX11_readPairs_285 ?_
                refine aw_istore_n (lv2 := [(2, _), (1, _), (6, _), (5, _), (4, _), (0, _), (3, _)]) dX11_readPairs_286 (by decide) rfl ?_
                refine aw_aload_n dX11_readPairs_287 rfl ?_
                refine aw_dup dX11_readPairs_288 rfl ?_
                refine aw_getf (v := .int (mr_pos s255)) dX11_readPairs_289 flX11_84_10 at_mod rfl ?_
                refine aw_iconst (v := 2) dX11_readPairs_292 (by decide) ?_
                refine aw_iadd dX11_readPairs_293 ?_
                refine aw_putf dX11_readPairs_294 ptX11_84_10 at_mod (Nat.le_of_ble_eq_true rfl) ⟨rfl, rfl⟩ ?_
                refine aw_eqh (h2 := HM mo mw ((mr_size s255), ((mr_pos s255) + 2), (mr_kind s255), (mr_whr s255), (mr_gw s255), (mr_gh s255), (mr_one s255), (mr_two s255), (mr_three s255)) ms mt mu dd wi hi gt sp ta li sr co hb) up_mod ?_
                refine aw_iload_n dX11_readPairs_297 rfl ?_
                refine aw_aload_n dX11_readPairs_298 rfl ?_
                refine aw_getf (v := .int (mr_gw s255)) dX11_readPairs_299 flX11_109_10 at_mod rfl ?_
                refine aw_icmp_gt (tgt := 313) dX11_readPairs_302 (by decide) (fun c302 => ?_) (fun c302 => ?_)
                · replace hE := fit hE c302
                  exact aw_lv _ (List.forall_mem_cons.mpr ⟨rfl, (List.forall_mem_cons.mpr ⟨rfl, fun _ h => absurd h List.not_mem_nil⟩)⟩) (b_X11_readPairs_313 mo mw ms mt mu dd wi hi sp ta li sr co hb n hms  (mr_pos s45) ((mr_size s255), ((mr_pos s255) + 2), (mr_kind s255), (mr_whr s255), (mr_gw s255), (mr_gh s255), (mr_one s255), (mr_two s255), (mr_three s255)) gt _ hE hF)
                · replace hE := fif hE c302
                  refine aw_iload_n dX11_readPairs_305 rfl ?_
                  refine aw_aload_n dX11_readPairs_306 rfl ?_
                  refine aw_getf (v := .int (mr_gh s255)) dX11_readPairs_307 flX11_112_10 at_mod rfl ?_
                  refine aw_icmp_lt (tgt := 527) dX11_readPairs_310 (by decide) (fun c310 => ?_) (fun c310 => ?_)
                  · replace hE := fit hE c310
                    exact aw_lv _ (List.forall_mem_cons.mpr ⟨rfl, (List.forall_mem_cons.mpr ⟨rfl, (List.forall_mem_cons.mpr ⟨rfl, (List.forall_mem_cons.mpr ⟨rfl, fun _ h => absurd h List.not_mem_nil⟩)⟩)⟩)⟩) (b_X11_readPairs_527 mo mw ms mt mu dd wi hi sp ta li sr co hb n hms k39 hk39 (v1 + z269) (v2 + z282) v3 ((mr_size s255), ((mr_pos s255) + 2), (mr_kind s255), (mr_whr s255), (mr_gw s255), (mr_gh s255), (mr_one s255), (mr_two s255), (mr_three s255)) gt _ hE hF)
                  · replace hE := fif hE c310
                    exact aw_lv _ (List.forall_mem_cons.mpr ⟨rfl, (List.forall_mem_cons.mpr ⟨rfl, fun _ h => absurd h List.not_mem_nil⟩)⟩) (b_X11_readPairs_313 mo mw ms mt mu dd wi hi sp ta li sr co hb n hms  (mr_pos s45) ((mr_size s255), ((mr_pos s255) + 2), (mr_kind s255), (mr_whr s255), (mr_gw s255), (mr_gh s255), (mr_one s255), (mr_two s255), (mr_three s255)) gt _ hE hF)
              · replace hE := fit hE c258
                refine aw_iconst (v := 0) dX11_readPairs_261 (by decide) ?_
                exact aw_zret dX11_readPairs_262 rfl (narB (by decide)) (Nat.zero_le _) (Nat.zero_le _) (Nat.zero_le _) (Nat.zero_le _) ⟨_, _, hE.symm, rfl, rfl, rfl⟩
          · replace hE := fit hE c239
            refine aw_iconst (v := 0) dX11_readPairs_242 (by decide) ?_
            refine aw_istore_n (lv2 := [(3, _), (6, _), (5, _), (4, _), (0, _), (1, _), (2, _)]) dX11_readPairs_243 (by decide) rfl ?_
            refine aw_goto (tgt := 527) dX11_readPairs_244 (by decide) ?_
            exact aw_lv _ (List.forall_mem_cons.mpr ⟨rfl, (List.forall_mem_cons.mpr ⟨rfl, (List.forall_mem_cons.mpr ⟨rfl, (List.forall_mem_cons.mpr ⟨rfl, fun _ h => absurd h List.not_mem_nil⟩)⟩)⟩)⟩) (b_X11_readPairs_527 mo mw ms mt mu dd wi hi sp ta li sr co hb n hms k39 hk39 v1 v2 (0 : Int32) ((mr_size s45), ((mr_pos s45) + 2), (mr_kind s45), (mr_whr s45), (mr_gw s45), (mr_gh s45), (mr_one s45), (mr_two s45), (mr_three s45)) gt _ hE hF)
        · replace hE := fit hE c209
          refine aw_iload_n dX11_readPairs_212 rfl ?_
          refine aw_aload_n dX11_readPairs_213 rfl ?_
          refine aw_getf (v := .int (mr_gh s45)) dX11_readPairs_214 flX11_112_10 at_mod rfl ?_
          refine aw_icmp_lt (tgt := 228) dX11_readPairs_217 (by decide) (fun c217 => ?_) (fun c217 => ?_)
          · replace hE := fit hE c217
            refine aw_iconst (v := 0) dX11_readPairs_228 (by decide) ?_
            refine aw_istore_n (lv2 := [(1, _), (6, _), (5, _), (4, _), (0, _), (2, _), (3, _)]) dX11_readPairs_229 (by decide) rfl ?_
            refine aw_iinc (v := (v2 + 1)) (lv2 := [(2, _), (1, _), (6, _), (5, _), (4, _), (0, _), (3, _)]) dX11_readPairs_230 rfl (incE (by decide)) (by decide) rfl ?_
            refine aw_goto (tgt := 527) dX11_readPairs_233 (by decide) ?_
            exact aw_lv _ (List.forall_mem_cons.mpr ⟨rfl, (List.forall_mem_cons.mpr ⟨rfl, (List.forall_mem_cons.mpr ⟨rfl, (List.forall_mem_cons.mpr ⟨rfl, fun _ h => absurd h List.not_mem_nil⟩)⟩)⟩)⟩) (b_X11_readPairs_527 mo mw ms mt mu dd wi hi sp ta li sr co hb n hms k39 hk39 (0 : Int32) (v2 + 1) v3 ((mr_size s45), ((mr_pos s45) + 2), (mr_kind s45), (mr_whr s45), (mr_gw s45), (mr_gh s45), (mr_one s45), (mr_two s45), (mr_three s45)) gt _ hE hF)
          · replace hE := fif hE c217
            refine aw_aload_n dX11_readPairs_220 rfl ?_
            refine aw_iconst (v := 4) dX11_readPairs_221 (by decide) ?_
            refine aw_iload dX11_readPairs_222 rfl ?_
            refine aw_callV dX11_readPairs_224 at_mod cvX11_90 rfl (kF_X11_wrong mo mw ((mr_size s45), ((mr_pos s45) + 2), (mr_kind s45), (mr_whr s45), (mr_gw s45), (mr_gh s45), (mr_one s45), (mr_two s45), (mr_three s45)) ms mt mu dd wi hi gt sp ta li sr co hb _  4 (mr_pos s45) (fon_ne hE hF)) rfl (Nat.le_of_ble_eq_true rfl) (by decide) (by decide) (by decide) (by decide) (fun _ _ _ hf => False.elim hf) (fun r224 h224 n224 hp224 => ?_)
            obtain ⟨z224, s224, e224, rfl, rfl, rfl⟩ := hp224
            replace hE := fon_ok e224 hE
            obtain ⟨g227, hE⟩ := fgd hE hF
            exact aw_zret dX11_readPairs_227 rfl (narB g227) (Nat.zero_le _) (Nat.zero_le _) (Nat.zero_le _) (Nat.zero_le _) ⟨_, _, hE.symm, rfl, rfl, rfl⟩
      · replace hE := fif hE c93
        refine aw_iload_n dX11_readPairs_96 rfl ?_
        refine aw_aload_n dX11_readPairs_97 rfl ?_
        refine aw_getf (v := .int (mr_gh s45)) dX11_readPairs_98 flX11_112_10 at_mod rfl ?_
        refine aw_icmp_ge (tgt := 115) dX11_readPairs_101 (by decide) (fun c101 => ?_) (fun c101 => ?_)
        · replace hE := fit hE c101
          exact aw_lv _ (List.forall_mem_cons.mpr ⟨rfl, (List.forall_mem_cons.mpr ⟨rfl, fun _ h => absurd h List.not_mem_nil⟩)⟩) (b_X11_readPairs_115 mo mw ms mt mu dd wi hi sp ta li sr co hb n hms  (mr_pos s45) ((mr_size s45), ((mr_pos s45) + 2), (mr_kind s45), (mr_whr s45), (mr_gw s45), (mr_gh s45), (mr_one s45), (mr_two s45), (mr_three s45)) gt _ hE hF)
        · replace hE := fif hE c101
          refine aw_iload_n dX11_readPairs_104 rfl ?_
          refine aw_iload dX11_readPairs_105 rfl ?_
          refine aw_iadd dX11_readPairs_107 ?_
          refine aw_aload_n dX11_readPairs_108 rfl ?_
          refine aw_getf (v := .int (mr_gw s45)) dX11_readPairs_109 flX11_109_10 at_mod rfl ?_
          refine aw_icmp_le (tgt := 123) dX11_readPairs_112 (by decide) (fun c112 => ?_) (fun c112 => ?_)
          · replace hE := fit hE c112
            refine aw_iconst (v := 0) dX11_readPairs_123 (by decide) ?_
            refine aw_istore (lv2 := [(7, _), (6, _), (5, _), (4, _), (0, _), (1, _), (2, _), (3, _)]) dX11_readPairs_124 (by decide) rfl ?_
            exact aw_lv _ (List.forall_mem_cons.mpr ⟨rfl, (List.forall_mem_cons.mpr ⟨rfl, (List.forall_mem_cons.mpr ⟨rfl, (List.forall_mem_cons.mpr ⟨rfl, (List.forall_mem_cons.mpr ⟨rfl, (List.forall_mem_cons.mpr ⟨rfl, (List.forall_mem_cons.mpr ⟨rfl, (List.forall_mem_cons.mpr ⟨rfl, fun _ h => absurd h List.not_mem_nil⟩)⟩)⟩)⟩)⟩)⟩)⟩)⟩) (lp_ind (Q_X11_readPairs_126 mo mw ms mt mu dd wi hi sp ta li sr co hb n) (fun _ _ _ _ _ _ _ _ _ res hq hF => (hF hq.symm).elim) (fun k hk => b_X11_readPairs_126 mo mw ms mt mu dd wi hi sp ta li sr co hb n hms k39 hk39 k hk) FU v1 v2 v3 (mr_pos s45) z64 z76 (0 : Int32) ((mr_size s45), ((mr_pos s45) + 2), (mr_kind s45), (mr_whr s45), (mr_gw s45), (mr_gh s45), (mr_one s45), (mr_two s45), (mr_three s45)) gt _ hE hF)
          · replace hE := fif hE c112
            exact aw_lv _ (List.forall_mem_cons.mpr ⟨rfl, (List.forall_mem_cons.mpr ⟨rfl, fun _ h => absurd h List.not_mem_nil⟩)⟩) (b_X11_readPairs_115 mo mw ms mt mu dd wi hi sp ta li sr co hb n hms  (mr_pos s45) ((mr_size s45), ((mr_pos s45) + 2), (mr_kind s45), (mr_whr s45), (mr_gw s45), (mr_gh s45), (mr_one s45), (mr_two s45), (mr_three s45)) gt _ hE hF)
    · replace hE := fit hE c48
      refine aw_iconst (v := 0) dX11_readPairs_51 (by decide) ?_
      exact aw_zret dX11_readPairs_52 rfl (narB (by decide)) (Nat.zero_le _) (Nat.zero_le _) (Nat.zero_le _) (Nat.zero_le _) ⟨_, _, hE.symm, rfl, rfl, rfl⟩
def F_X11_readPairs_2 (sb : A) (ta : A) (k2 : Int32 → MR → A → Out (MR × A) Int32) (v1 : Int32) (mr : MR) (gt : A) : Out (MR × A) Int32 := if ((mr_gw mr) * (mr_gh mr)) ≤ v1 then (lp (fun _ _ _ _ _ => fno) (F_X11_readPairs_39 sb ta) FU (0 : Int32) (0 : Int32) (1 : Int32) mr gt) else (if inb 0 65536 then (if inb v1 4096 then (k2 (v1 + 1) mr (upd gt (Int32.toNatClampNeg v1) (ta (Int32.toNatClampNeg 0)))) else fno) else fno)
set_option maxHeartbeats 1000000 in
set_option maxRecDepth 100000 in
theorem b_X11_readPairs_2 (mo : MO) (mw : MW) (ms : Nat) (mt : A) (mu : A) (dd : A) (wi : A) (hi : A) (sp : A) (ta : A) (li : A) (sr : A) (co : A) (hb : aH) (n : Nat) (hms : isMS ms) (k2 : Int32 → MR → A → Out (MR × A) Int32) (hk2 : Q_X11_readPairs_2 mo mw ms mt mu dd wi hi sp ta li sr co hb n k2) : Q_X11_readPairs_2 mo mw ms mt mu dd wi hi sp ta li sr co hb n (F_X11_readPairs_2 (srcB ms mt mu) ta k2) := by
  intro v1 mr gt res hE hF
  unfold F_X11_readPairs_2 at hE
  refine aw_iload_n dX11_readPairs_2 rfl ?_
  refine aw_aload_n dX11_readPairs_3 rfl ?_
  refine aw_getf (v := .int (mr_gw mr)) dX11_readPairs_4 flX11_109_10 at_mod rfl ?_
  refine aw_aload_n dX11_readPairs_7 rfl ?_
  refine aw_getf (v := .int (mr_gh mr)) dX11_readPairs_8 flX11_112_10 at_mod rfl ?_
  refine aw_imul dX11_readPairs_11 ?_
  refine aw_icmp_ge (tgt := 33) dX11_readPairs_12 (by decide) (fun c12 => ?_) (fun c12 => ?_)
  · replace hE := fit hE c12
    refine aw_iconst (v := 0) dX11_readPairs_33 (by decide) ?_
    refine aw_istore_n (lv2 := [(1, _), (0, _)]) dX11_readPairs_34 (by decide) rfl ?_
    refine aw_iconst (v := 0) dX11_readPairs_35 (by decide) ?_
    refine aw_istore_n (lv2 := [(2, _), (1, _), (0, _)]) dX11_readPairs_36 (by decide) rfl ?_
    refine aw_iconst (v := 1) dX11_readPairs_37 (by decide) ?_
    refine aw_istore_n (lv2 := [(3, _), (2, _), (1, _), (0, _)]) dX11_readPairs_38 (by decide) rfl ?_
    exact aw_lv _ (List.forall_mem_cons.mpr ⟨rfl, (List.forall_mem_cons.mpr ⟨rfl, (List.forall_mem_cons.mpr ⟨rfl, (List.forall_mem_cons.mpr ⟨rfl, fun _ h => absurd h List.not_mem_nil⟩)⟩)⟩)⟩) (lp_ind (Q_X11_readPairs_39 mo mw ms mt mu dd wi hi sp ta li sr co hb n) (fun _ _ _ _ _ res hq hF => (hF hq.symm).elim) (fun k hk => b_X11_readPairs_39 mo mw ms mt mu dd wi hi sp ta li sr co hb n hms  k hk) FU (0 : Int32) (0 : Int32) (1 : Int32) mr gt _ hE hF)
  · replace hE := fif hE c12
    refine aw_aload_n dX11_readPairs_15 rfl ?_
    refine aw_getf (v := .ref 37) dX11_readPairs_16 flX11_27_10 at_mod rfl ?_
    refine aw_iload_n dX11_readPairs_19 rfl ?_
    refine aw_aload_n dX11_readPairs_20 rfl ?_
    refine aw_getf (v := .ref 39) dX11_readPairs_21 flX11_49_10 at_mod rfl ?_
    refine aw_iconst (v := 0) dX11_readPairs_24 (by decide) ?_
    obtain ⟨g25, hE⟩ := fgd hE hF
    refine aw_iald (f := ta) dX11_readPairs_25 at_mtable (vp_in_iff.mpr g25) ?_
    obtain ⟨g26, hE⟩ := fgd hE hF
    refine aw_iast (f := gt) dX11_readPairs_26 at_mgot (vp_in_iff.mpr g26) ?_
    refine aw_eqh (h2 := HM mo mw mr ms mt mu dd wi hi (upd gt (Int32.toNatClampNeg v1) (ta (Int32.toNatClampNeg 0))) sp ta li sr co hb) up_mgot ?_
    refine aw_iinc (v := (v1 + 1)) (lv2 := [(1, _), (0, _)]) dX11_readPairs_27 rfl (incE (by decide)) (by decide) rfl ?_
    refine aw_goto (tgt := 2) dX11_readPairs_30 (by decide) ?_
    exact aw_lv _ (List.forall_mem_cons.mpr ⟨rfl, (List.forall_mem_cons.mpr ⟨rfl, fun _ h => absurd h List.not_mem_nil⟩)⟩) (hk2 (v1 + 1) mr (upd gt (Int32.toNatClampNeg v1) (ta (Int32.toNatClampNeg 0))) _ hE hF)
def F_X11_readPairs (sb : A) (mr : MR) (gt : A) (ta : A) : Out (MR × A) Int32 := lp (fun _ _ _ => fno) (F_X11_readPairs_2 sb ta) FU (0 : Int32) mr gt
set_option maxHeartbeats 1000000 in
set_option maxRecDepth 100000 in
theorem kF_X11_readPairs (mo : MO) (mw : MW) (mr : MR) (ms : Nat) (mt : A) (mu : A) (dd : A) (wi : A) (hi : A) (gt : A) (sp : A) (ta : A) (li : A) (sr : A) (co : A) (hb : aH) (n : Nat) (hms : isMS ms)  (hF : F_X11_readPairs (srcB ms mt mu) mr gt ta ≠ fno) : AM mX11_readPairs 3 [.ref 31] (HM mo mw mr ms mt mu dd wi hi gt sp ta li sr co hb) n 0 0 0 0 (P_X11_readPairs mo mw ms mt mu dd wi hi sp ta li sr co hb n (F_X11_readPairs (srcB ms mt mu) mr gt ta)) (fun _ _ _ => False) := by
  generalize hE : F_X11_readPairs (srcB ms mt mu) mr gt ta = res at hF ⊢
  refine aw_of (by decide +kernel) rfl (Nat.le_of_ble_eq_true rfl) ?_
  unfold F_X11_readPairs at hE
  refine aw_iconst (v := 0) dX11_readPairs_0 (by decide) ?_
  refine aw_istore_n (lv2 := [(1, _), (0, _)]) dX11_readPairs_1 (by decide) rfl ?_
  exact aw_lv _ (List.forall_mem_cons.mpr ⟨rfl, (List.forall_mem_cons.mpr ⟨rfl, fun _ h => absurd h List.not_mem_nil⟩)⟩) (lp_ind (Q_X11_readPairs_2 mo mw ms mt mu dd wi hi sp ta li sr co hb n) (fun _ _ _ res hq hF => (hF hq.symm).elim) (fun k hk => b_X11_readPairs_2 mo mw ms mt mu dd wi hi sp ta li sr co hb n hms  k hk) FU (0 : Int32) mr gt _ hE hF)
