def P_X11_writeRows (mo : MO) (mr : MR) (ms : Nat) (mt : A) (dd : A) (wi : A) (hi : A) (gt : A) (sp : A) (ta : A) (li : A) (sr : A) (hb : aH) (n : Nat) (res : Out (MW × A × A) Unit) : Option Value → aH → Nat → Prop := fun r1 h2 n2 => ∃ (a : Unit) (s : (MW × A × A)), res = fok a s ∧ r1 = none ∧ h2 = HM mo s.1 mr ms mt s.2.1 dd wi hi gt sp ta li sr s.2.2 hb ∧ n = n2
abbrev Q_X11_writeRows_18 (mo : MO) (mr : MR) (ms : Nat) (mt : A) (dd : A) (wi : A) (hi : A) (gt : A) (sp : A) (ta : A) (li : A) (sr : A) (hb : aH) (n : Nat) (k : Int32 → Int32 → Int32 → MW → A → A → Out (MW × A × A) Unit) : Prop := ∀ (v1 : Int32) (v2 : Int32) (v3 : Int32) (mw : MW) (mu : A) (co : A) (res : Out (MW × A × A) Unit), k v1 v2 v3 mw mu co = res → res ≠ fno → AW (fun _ _ => True) mX11_writeRows (rmD 3 0 0) 0 0 (P_X11_writeRows mo mr ms mt dd wi hi gt sp ta li sr hb n res) (fun _ _ _ => False) 0 0 18 [(0, .ref 31), (1, .int v1), (2, .int v2), (3, .int v3)] [] (HM mo mw mr ms mt mu dd wi hi gt sp ta li sr co hb) n
abbrev Q_X11_writeRows_102 (mo : MO) (mr : MR) (ms : Nat) (mt : A) (dd : A) (wi : A) (hi : A) (gt : A) (sp : A) (ta : A) (li : A) (sr : A) (hb : aH) (n : Nat) (k : Int32 → Int32 → Int32 → Int32 → MW → A → A → Out (MW × A × A) Unit) : Prop := ∀ (v1 : Int32) (v2 : Int32) (v3 : Int32) (t0 : Int32) (mw : MW) (mu : A) (co : A) (res : Out (MW × A × A) Unit), k v1 v2 v3 t0 mw mu co = res → res ≠ fno → AW (fun _ _ => True) mX11_writeRows (rmD 3 0 0) 0 0 (P_X11_writeRows mo mr ms mt dd wi hi gt sp ta li sr hb n res) (fun _ _ _ => False) 0 0 102 [(0, .ref 31), (1, .int v1), (2, .int v2), (3, .int v3)] [.int t0, .ref 31] (HM mo mw mr ms mt mu dd wi hi gt sp ta li sr co hb) n
abbrev Q_X11_writeRows_118 (mo : MO) (mr : MR) (ms : Nat) (mt : A) (dd : A) (wi : A) (hi : A) (gt : A) (sp : A) (ta : A) (li : A) (sr : A) (hb : aH) (n : Nat) (k : Int32 → Int32 → Int32 → Int32 → MW → A → A → Out (MW × A × A) Unit) : Prop := ∀ (v1 : Int32) (v2 : Int32) (v3 : Int32) (t0 : Int32) (mw : MW) (mu : A) (co : A) (res : Out (MW × A × A) Unit), k v1 v2 v3 t0 mw mu co = res → res ≠ fno → AW (fun _ _ => True) mX11_writeRows (rmD 3 0 0) 0 0 (P_X11_writeRows mo mr ms mt dd wi hi gt sp ta li sr hb n res) (fun _ _ _ => False) 0 0 118 [(0, .ref 31), (1, .int v1), (2, .int v2), (3, .int v3)] [.int t0, .ref 31] (HM mo mw mr ms mt mu dd wi hi gt sp ta li sr co hb) n
abbrev Q_X11_writeRows_159 (mo : MO) (mr : MR) (ms : Nat) (mt : A) (dd : A) (wi : A) (hi : A) (gt : A) (sp : A) (ta : A) (li : A) (sr : A) (hb : aH) (n : Nat) (k : Int32 → Int32 → Int32 → Int32 → MW → A → A → Out (MW × A × A) Unit) : Prop := ∀ (v1 : Int32) (v2 : Int32) (v3 : Int32) (v4 : Int32) (mw : MW) (mu : A) (co : A) (res : Out (MW × A × A) Unit), k v1 v2 v3 v4 mw mu co = res → res ≠ fno → AW (fun _ _ => True) mX11_writeRows (rmD 3 0 0) 0 0 (P_X11_writeRows mo mr ms mt dd wi hi gt sp ta li sr hb n res) (fun _ _ _ => False) 0 0 159 [(0, .ref 31), (1, .int v1), (2, .int v2), (3, .int v3), (4, .int v4)] [] (HM mo mw mr ms mt mu dd wi hi gt sp ta li sr co hb) n
abbrev Q_X11_writeRows_204 (mo : MO) (mr : MR) (ms : Nat) (mt : A) (dd : A) (wi : A) (hi : A) (gt : A) (sp : A) (ta : A) (li : A) (sr : A) (hb : aH) (n : Nat) (k : Int32 → Int32 → Int32 → Int32 → MW → A → A → Out (MW × A × A) Unit) : Prop := ∀ (v1 : Int32) (v2 : Int32) (v4 : Int32) (v5 : Int32) (mw : MW) (mu : A) (co : A) (res : Out (MW × A × A) Unit), k v1 v2 v4 v5 mw mu co = res → res ≠ fno → AW (fun _ _ => True) mX11_writeRows (rmD 3 0 0) 0 0 (P_X11_writeRows mo mr ms mt dd wi hi gt sp ta li sr hb n res) (fun _ _ _ => False) 0 0 204 [(0, .ref 31), (1, .int v1), (2, .int v2), (4, .int v4), (5, .int v5)] [] (HM mo mw mr ms mt mu dd wi hi gt sp ta li sr co hb) n
abbrev Q_X11_writeRows_212 (mo : MO) (mr : MR) (ms : Nat) (mt : A) (dd : A) (wi : A) (hi : A) (gt : A) (sp : A) (ta : A) (li : A) (sr : A) (hb : aH) (n : Nat) (k : Int32 → Int32 → Int32 → Int32 → Int32 → MW → A → A → Out (MW × A × A) Unit) : Prop := ∀ (v1 : Int32) (v2 : Int32) (v4 : Int32) (v5 : Int32) (v6 : Int32) (mw : MW) (mu : A) (co : A) (res : Out (MW × A × A) Unit), k v1 v2 v4 v5 v6 mw mu co = res → res ≠ fno → AW (fun _ _ => True) mX11_writeRows (rmD 3 0 0) 0 0 (P_X11_writeRows mo mr ms mt dd wi hi gt sp ta li sr hb n res) (fun _ _ _ => False) 0 0 212 [(0, .ref 31), (1, .int v1), (2, .int v2), (4, .int v4), (5, .int v5), (6, .int v6)] [] (HM mo mw mr ms mt mu dd wi hi gt sp ta li sr co hb) n
abbrev Q_X11_writeRows_243 (mo : MO) (mr : MR) (ms : Nat) (mt : A) (dd : A) (wi : A) (hi : A) (gt : A) (sp : A) (ta : A) (li : A) (sr : A) (hb : aH) (n : Nat) (k : Int32 → Int32 → Int32 → Int32 → Int32 → Int32 → Int32 → MW → A → A → Out (MW × A × A) Unit) : Prop := ∀ (v1 : Int32) (v2 : Int32) (v4 : Int32) (v5 : Int32) (v6 : Int32) (v7 : Int32) (v8 : Int32) (mw : MW) (mu : A) (co : A) (res : Out (MW × A × A) Unit), k v1 v2 v4 v5 v6 v7 v8 mw mu co = res → res ≠ fno → AW (fun _ _ => True) mX11_writeRows (rmD 3 0 0) 0 0 (P_X11_writeRows mo mr ms mt dd wi hi gt sp ta li sr hb n res) (fun _ _ _ => False) 0 0 243 [(0, .ref 31), (1, .int v1), (2, .int v2), (4, .int v4), (5, .int v5), (6, .int v6), (7, .int v7), (8, .int v8)] [] (HM mo mw mr ms mt mu dd wi hi gt sp ta li sr co hb) n
abbrev Q_X11_writeRows_288 (mo : MO) (mr : MR) (ms : Nat) (mt : A) (dd : A) (wi : A) (hi : A) (gt : A) (sp : A) (ta : A) (li : A) (sr : A) (hb : aH) (n : Nat) (k : Int32 → Int32 → Int32 → Int32 → Int32 → Int32 → Int32 → MW → A → A → Out (MW × A × A) Unit) : Prop := ∀ (v1 : Int32) (v2 : Int32) (v4 : Int32) (v5 : Int32) (v6 : Int32) (v7 : Int32) (v8 : Int32) (mw : MW) (mu : A) (co : A) (res : Out (MW × A × A) Unit), k v1 v2 v4 v5 v6 v7 v8 mw mu co = res → res ≠ fno → AW (fun _ _ => True) mX11_writeRows (rmD 3 0 0) 0 0 (P_X11_writeRows mo mr ms mt dd wi hi gt sp ta li sr hb n res) (fun _ _ _ => False) 0 0 288 [(0, .ref 31), (1, .int v1), (2, .int v2), (4, .int v4), (5, .int v5), (6, .int v6), (7, .int v7), (8, .int v8)] [] (HM mo mw mr ms mt mu dd wi hi gt sp ta li sr co hb) n
abbrev Q_X11_writeRows_294 (mo : MO) (mr : MR) (ms : Nat) (mt : A) (dd : A) (wi : A) (hi : A) (gt : A) (sp : A) (ta : A) (li : A) (sr : A) (hb : aH) (n : Nat) (k : Int32 → Int32 → Int32 → Int32 → Int32 → Int32 → Int32 → MW → A → A → Out (MW × A × A) Unit) : Prop := ∀ (v1 : Int32) (v2 : Int32) (v4 : Int32) (v5 : Int32) (v6 : Int32) (v7 : Int32) (v8 : Int32) (mw : MW) (mu : A) (co : A) (res : Out (MW × A × A) Unit), k v1 v2 v4 v5 v6 v7 v8 mw mu co = res → res ≠ fno → AW (fun _ _ => True) mX11_writeRows (rmD 3 0 0) 0 0 (P_X11_writeRows mo mr ms mt dd wi hi gt sp ta li sr hb n res) (fun _ _ _ => False) 0 0 294 [(0, .ref 31), (1, .int v1), (2, .int v2), (4, .int v4), (5, .int v5), (6, .int v6), (7, .int v7), (8, .int v8)] [] (HM mo mw mr ms mt mu dd wi hi gt sp ta li sr co hb) n
abbrev Q_X11_writeRows_320 (mo : MO) (mr : MR) (ms : Nat) (mt : A) (dd : A) (wi : A) (hi : A) (gt : A) (sp : A) (ta : A) (li : A) (sr : A) (hb : aH) (n : Nat) (k : Int32 → Int32 → Int32 → Int32 → Int32 → Int32 → MW → A → A → Out (MW × A × A) Unit) : Prop := ∀ (v1 : Int32) (v2 : Int32) (v4 : Int32) (v5 : Int32) (v6 : Int32) (v8 : Int32) (mw : MW) (mu : A) (co : A) (res : Out (MW × A × A) Unit), k v1 v2 v4 v5 v6 v8 mw mu co = res → res ≠ fno → AW (fun _ _ => True) mX11_writeRows (rmD 3 0 0) 0 0 (P_X11_writeRows mo mr ms mt dd wi hi gt sp ta li sr hb n res) (fun _ _ _ => False) 0 0 320 [(0, .ref 31), (1, .int v1), (2, .int v2), (4, .int v4), (5, .int v5), (6, .int v6), (8, .int v8)] [] (HM mo mw mr ms mt mu dd wi hi gt sp ta li sr co hb) n
abbrev Q_X11_writeRows_352 (mo : MO) (mr : MR) (ms : Nat) (mt : A) (dd : A) (wi : A) (hi : A) (gt : A) (sp : A) (ta : A) (li : A) (sr : A) (hb : aH) (n : Nat) (k : Int32 → Int32 → Int32 → Int32 → Int32 → MW → A → A → Out (MW × A × A) Unit) : Prop := ∀ (v1 : Int32) (v2 : Int32) (v4 : Int32) (v5 : Int32) (t0 : Int32) (mw : MW) (mu : A) (co : A) (res : Out (MW × A × A) Unit), k v1 v2 v4 v5 t0 mw mu co = res → res ≠ fno → AW (fun _ _ => True) mX11_writeRows (rmD 3 0 0) 0 0 (P_X11_writeRows mo mr ms mt dd wi hi gt sp ta li sr hb n res) (fun _ _ _ => False) 0 0 352 [(0, .ref 31), (1, .int v1), (2, .int v2), (4, .int v4), (5, .int v5)] [.int t0, .ref 31] (HM mo mw mr ms mt mu dd wi hi gt sp ta li sr co hb) n
abbrev Q_X11_writeRows_358 (mo : MO) (mr : MR) (ms : Nat) (mt : A) (dd : A) (wi : A) (hi : A) (gt : A) (sp : A) (ta : A) (li : A) (sr : A) (hb : aH) (n : Nat) (k : Int32 → Int32 → Int32 → Int32 → MW → A → A → Out (MW × A × A) Unit) : Prop := ∀ (v1 : Int32) (v2 : Int32) (v4 : Int32) (v5 : Int32) (mw : MW) (mu : A) (co : A) (res : Out (MW × A × A) Unit), k v1 v2 v4 v5 mw mu co = res → res ≠ fno → AW (fun _ _ => True) mX11_writeRows (rmD 3 0 0) 0 0 (P_X11_writeRows mo mr ms mt dd wi hi gt sp ta li sr hb n res) (fun _ _ _ => False) 0 0 358 [(0, .ref 31), (1, .int v1), (2, .int v2), (4, .int v4), (5, .int v5)] [] (HM mo mw mr ms mt mu dd wi hi gt sp ta li sr co hb) n
abbrev Q_X11_writeRows_378 (mo : MO) (mr : MR) (ms : Nat) (mt : A) (dd : A) (wi : A) (hi : A) (gt : A) (sp : A) (ta : A) (li : A) (sr : A) (hb : aH) (n : Nat) (k : Int32 → Int32 → Int32 → Int32 → MW → A → A → Out (MW × A × A) Unit) : Prop := ∀ (v1 : Int32) (v2 : Int32) (v4 : Int32) (v5 : Int32) (mw : MW) (mu : A) (co : A) (res : Out (MW × A × A) Unit), k v1 v2 v4 v5 mw mu co = res → res ≠ fno → AW (fun _ _ => True) mX11_writeRows (rmD 3 0 0) 0 0 (P_X11_writeRows mo mr ms mt dd wi hi gt sp ta li sr hb n res) (fun _ _ _ => False) 0 0 378 [(0, .ref 31), (1, .int v1), (2, .int v2), (4, .int v4), (5, .int v5)] [] (HM mo mw mr ms mt mu dd wi hi gt sp ta li sr co hb) n
def F_X11_writeRows_378 (dd : A) (wi : A) (hi : A) (k204 : Int32 → Int32 → Int32 → Int32 → MW → A → A → Out (MW × A × A) Unit) (v1 : Int32) (v2 : Int32) (v4 : Int32) (v5 : Int32) (mw : MW) (mu : A) (co : A) : Out (MW × A × A) Unit := k204 v1 v2 v4 (v5 + (-1)) mw mu co
set_option maxHeartbeats 1000000 in
set_option maxRecDepth 100000 in
theorem b_X11_writeRows_378 (mo : MO) (mr : MR) (ms : Nat) (mt : A) (dd : A) (wi : A) (hi : A) (gt : A) (sp : A) (ta : A) (li : A) (sr : A) (hb : aH) (n : Nat)  (k204 : Int32 → Int32 → Int32 → Int32 → MW → A → A → Out (MW × A × A) Unit) (hk204 : Q_X11_writeRows_204 mo mr ms mt dd wi hi gt sp ta li sr hb n k204) : Q_X11_writeRows_378 mo mr ms mt dd wi hi gt sp ta li sr hb n (F_X11_writeRows_378 dd wi hi k204) := by
  intro v1 v2 v4 v5 mw mu co res hE hF
  unfold F_X11_writeRows_378 at hE
  refine aw_iinc (v := (v5 + (-1))) (lv2 := [(5, _), (0, _), (1, _), (2, _), (4, _)]) dX11_writeRows_378 rfl (incE (by decide)) (by decide) rfl ?_
  refine aw_goto (tgt := 204) dX11_writeRows_381 (by decide) ?_
  exact aw_lv _ (List.forall_mem_cons.mpr ⟨rfl, (List.forall_mem_cons.mpr ⟨rfl, (List.forall_mem_cons.mpr ⟨rfl, (List.forall_mem_cons.mpr ⟨rfl, (List.forall_mem_cons.mpr ⟨rfl, fun _ h => absurd h List.not_mem_nil⟩)⟩)⟩)⟩)⟩) (hk204 v1 v2 v4 (v5 + (-1)) mw mu co _ hE hF)
def F_X11_writeRows_358 (dd : A) (wi : A) (hi : A) (k204 : Int32 → Int32 → Int32 → Int32 → MW → A → A → Out (MW × A × A) Unit) (k358 : Int32 → Int32 → Int32 → Int32 → MW → A → A → Out (MW × A × A) Unit) (v1 : Int32) (v2 : Int32) (v4 : Int32) (v5 : Int32) (mw : MW) (mu : A) (co : A) : Out (MW × A × A) Unit := if (((mw_om mw) - v4) - ((mw_om mw) - v4) / 4 * 4) = 0 then (F_X11_writeRows_378 dd wi hi k204 v1 v2 v4 v5 mw mu co) else (fon (F_X11_put_ 0 mw mu) (fun z372 s372 => k358 v1 v2 v4 v5 s372.1 s372.2 co) (fun _ _ => fno))
set_option maxHeartbeats 1000000 in
set_option maxRecDepth 100000 in
theorem b_X11_writeRows_358 (mo : MO) (mr : MR) (ms : Nat) (mt : A) (dd : A) (wi : A) (hi : A) (gt : A) (sp : A) (ta : A) (li : A) (sr : A) (hb : aH) (n : Nat)  (k204 : Int32 → Int32 → Int32 → Int32 → MW → A → A → Out (MW × A × A) Unit) (hk204 : Q_X11_writeRows_204 mo mr ms mt dd wi hi gt sp ta li sr hb n k204) (k358 : Int32 → Int32 → Int32 → Int32 → MW → A → A → Out (MW × A × A) Unit) (hk358 : Q_X11_writeRows_358 mo mr ms mt dd wi hi gt sp ta li sr hb n k358) : Q_X11_writeRows_358 mo mr ms mt dd wi hi gt sp ta li sr hb n (F_X11_writeRows_358 dd wi hi k204 k358) := by
  intro v1 v2 v4 v5 mw mu co res hE hF
  unfold F_X11_writeRows_358 at hE
  refine aw_aload_n dX11_writeRows_358 rfl ?_
  refine aw_getf (v := .int (mw_om mw)) dX11_writeRows_359 flX11_75_10 at_mod rfl ?_
  refine aw_iload dX11_writeRows_362 rfl ?_
  refine aw_isub dX11_writeRows_364 ?_
  refine aw_iconst (v := 4) dX11_writeRows_365 (by decide) ?_
  refine aw_irem dX11_writeRows_366 (by decide) ?_
  refine aw_if_eq (tgt := 378) dX11_writeRows_367 (by decide) (fun c367 => ?_) (fun c367 => ?_)
  · replace hE := fit hE c367
    exact aw_lv _ (List.forall_mem_cons.mpr ⟨rfl, (List.forall_mem_cons.mpr ⟨rfl, (List.forall_mem_cons.mpr ⟨rfl, (List.forall_mem_cons.mpr ⟨rfl, (List.forall_mem_cons.mpr ⟨rfl, fun _ h => absurd h List.not_mem_nil⟩)⟩)⟩)⟩)⟩) (b_X11_writeRows_378 mo mr ms mt dd wi hi gt sp ta li sr hb n  k204 hk204 v1 v2 v4 v5 mw mu co _ hE hF)
  · replace hE := fif hE c367
    refine aw_aload_n dX11_writeRows_370 rfl ?_
    refine aw_iconst (v := 0) dX11_writeRows_371 (by decide) ?_
    refine aw_callV dX11_writeRows_372 at_mod cvX11_280 rfl (kF_X11_put_ mo mw mr ms mt mu dd wi hi gt sp ta li sr co hb _  0 (fon_ne hE hF)) rfl (Nat.le_of_ble_eq_true rfl) (by decide) (by decide) (by decide) (by decide) (fun _ _ _ hf => False.elim hf) (fun r372 h372 n372 hp372 => ?_)
    obtain ⟨z372, s372, e372, rfl, rfl, rfl⟩ := hp372
    replace hE := fon_ok e372 hE
    refine aw_goto (tgt := 358) dX11_writeRows_375 (by decide) ?_
    exact aw_lv _ (List.forall_mem_cons.mpr ⟨rfl, (List.forall_mem_cons.mpr ⟨rfl, (List.forall_mem_cons.mpr ⟨rfl, (List.forall_mem_cons.mpr ⟨rfl, (List.forall_mem_cons.mpr ⟨rfl, fun _ h => absurd h List.not_mem_nil⟩)⟩)⟩)⟩)⟩) (hk358 v1 v2 v4 v5 s372.1 s372.2 co _ hE hF)
def F_X11_writeRows_352 (dd : A) (wi : A) (hi : A) (k204 : Int32 → Int32 → Int32 → Int32 → MW → A → A → Out (MW × A × A) Unit) (v1 : Int32) (v2 : Int32) (v4 : Int32) (v5 : Int32) (t0 : Int32) (mw : MW) (mu : A) (co : A) : Out (MW × A × A) Unit := fon (F_X11_put_ t0 mw mu) (fun z352 s352 => F_X11_writeRows_378 dd wi hi k204 v1 v2 v4 v5 s352.1 s352.2 co) (fun _ _ => fno)
set_option maxHeartbeats 1000000 in
set_option maxRecDepth 100000 in
theorem b_X11_writeRows_352 (mo : MO) (mr : MR) (ms : Nat) (mt : A) (dd : A) (wi : A) (hi : A) (gt : A) (sp : A) (ta : A) (li : A) (sr : A) (hb : aH) (n : Nat)  (k204 : Int32 → Int32 → Int32 → Int32 → MW → A → A → Out (MW × A × A) Unit) (hk204 : Q_X11_writeRows_204 mo mr ms mt dd wi hi gt sp ta li sr hb n k204) : Q_X11_writeRows_352 mo mr ms mt dd wi hi gt sp ta li sr hb n (F_X11_writeRows_352 dd wi hi k204) := by
  intro v1 v2 v4 v5 t0 mw mu co res hE hF
  unfold F_X11_writeRows_352 at hE
  refine aw_callV dX11_writeRows_352 at_mod cvX11_280 rfl (kF_X11_put_ mo mw mr ms mt mu dd wi hi gt sp ta li sr co hb _  t0 (fon_ne hE hF)) rfl (Nat.le_of_ble_eq_true rfl) (by decide) (by decide) (by decide) (by decide) (fun _ _ _ hf => False.elim hf) (fun r352 h352 n352 hp352 => ?_)
  obtain ⟨z352, s352, e352, rfl, rfl, rfl⟩ := hp352
  replace hE := fon_ok e352 hE
  refine aw_goto (tgt := 378) dX11_writeRows_355 (by decide) ?_
  exact aw_lv _ (List.forall_mem_cons.mpr ⟨rfl, (List.forall_mem_cons.mpr ⟨rfl, (List.forall_mem_cons.mpr ⟨rfl, (List.forall_mem_cons.mpr ⟨rfl, (List.forall_mem_cons.mpr ⟨rfl, fun _ h => absurd h List.not_mem_nil⟩)⟩)⟩)⟩)⟩) (b_X11_writeRows_378 mo mr ms mt dd wi hi gt sp ta li sr hb n  k204 hk204 v1 v2 v4 v5 s352.1 s352.2 co _ hE hF)
def F_X11_writeRows_320 (dd : A) (wi : A) (hi : A) (k204 : Int32 → Int32 → Int32 → Int32 → MW → A → A → Out (MW × A × A) Unit) (k212 : Int32 → Int32 → Int32 → Int32 → Int32 → MW → A → A → Out (MW × A × A) Unit) (v1 : Int32) (v2 : Int32) (v4 : Int32) (v5 : Int32) (v6 : Int32) (v8 : Int32) (mw : MW) (mu : A) (co : A) : Out (MW × A × A) Unit := k212 v1 v2 v4 v5 (v6 + v8) mw mu co
set_option maxHeartbeats 1000000 in
set_option maxRecDepth 100000 in
theorem b_X11_writeRows_320 (mo : MO) (mr : MR) (ms : Nat) (mt : A) (dd : A) (wi : A) (hi : A) (gt : A) (sp : A) (ta : A) (li : A) (sr : A) (hb : aH) (n : Nat)  (k204 : Int32 → Int32 → Int32 → Int32 → MW → A → A → Out (MW × A × A) Unit) (hk204 : Q_X11_writeRows_204 mo mr ms mt dd wi hi gt sp ta li sr hb n k204) (k212 : Int32 → Int32 → Int32 → Int32 → Int32 → MW → A → A → Out (MW × A × A) Unit) (hk212 : Q_X11_writeRows_212 mo mr ms mt dd wi hi gt sp ta li sr hb n k212) : Q_X11_writeRows_320 mo mr ms mt dd wi hi gt sp ta li sr hb n (F_X11_writeRows_320 dd wi hi k204 k212) := by
  intro v1 v2 v4 v5 v6 v8 mw mu co res hE hF
  unfold F_X11_writeRows_320 at hE
  refine aw_iload dX11_writeRows_320 rfl ?_
  refine aw_iload dX11_writeRows_322 rfl ?_
  refine aw_iadd dX11_writeRows_324 ?_
  refine aw_istore (lv2 := [(6, _), (0, _), (1, _), (2, _), (4, _), (5, _), (8, _)]) dX11_writeRows_325 (by decide) rfl ?_
  refine aw_goto (tgt := 212) dX11_writeRows_327 (by decide) ?_
  exact aw_lv _ (List.forall_mem_cons.mpr ⟨rfl, (List.forall_mem_cons.mpr ⟨rfl, (List.forall_mem_cons.mpr ⟨rfl, (List.forall_mem_cons.mpr ⟨rfl, (List.forall_mem_cons.mpr ⟨rfl, (List.forall_mem_cons.mpr ⟨rfl, fun _ h => absurd h List.not_mem_nil⟩)⟩)⟩)⟩)⟩)⟩) (hk212 v1 v2 v4 v5 (v6 + v8) mw mu co _ hE hF)
def F_X11_writeRows_294 (dd : A) (wi : A) (hi : A) (k204 : Int32 → Int32 → Int32 → Int32 → MW → A → A → Out (MW × A × A) Unit) (k212 : Int32 → Int32 → Int32 → Int32 → Int32 → MW → A → A → Out (MW × A × A) Unit) (v1 : Int32) (v2 : Int32) (v4 : Int32) (v5 : Int32) (v6 : Int32) (v7 : Int32) (v8 : Int32) (mw : MW) (mu : A) (co : A) : Out (MW × A × A) Unit := if v2 = 7 then (fon (F_X11_putBack v7 3 mw mu) (fun z304 s304 => F_X11_writeRows_320 dd wi hi k204 k212 v1 v2 v4 v5 v6 v8 s304.1 s304.2 co) (fun _ _ => fno)) else (fon (F_X11_colourOf v7 mw co) (fun z314 s314 => fon (F_X11_put_ z314 mw mu) (fun z317 s317 => F_X11_writeRows_320 dd wi hi k204 k212 v1 v2 v4 v5 v6 v8 s317.1 s317.2 co) (fun _ _ => fno)) (fun _ _ => fno))
set_option maxHeartbeats 1000000 in
set_option maxRecDepth 100000 in
theorem b_X11_writeRows_294 (mo : MO) (mr : MR) (ms : Nat) (mt : A) (dd : A) (wi : A) (hi : A) (gt : A) (sp : A) (ta : A) (li : A) (sr : A) (hb : aH) (n : Nat)  (k204 : Int32 → Int32 → Int32 → Int32 → MW → A → A → Out (MW × A × A) Unit) (hk204 : Q_X11_writeRows_204 mo mr ms mt dd wi hi gt sp ta li sr hb n k204) (k212 : Int32 → Int32 → Int32 → Int32 → Int32 → MW → A → A → Out (MW × A × A) Unit) (hk212 : Q_X11_writeRows_212 mo mr ms mt dd wi hi gt sp ta li sr hb n k212) : Q_X11_writeRows_294 mo mr ms mt dd wi hi gt sp ta li sr hb n (F_X11_writeRows_294 dd wi hi k204 k212) := by
  intro v1 v2 v4 v5 v6 v7 v8 mw mu co res hE hF
  unfold F_X11_writeRows_294 at hE
  refine aw_iload_n dX11_writeRows_294 rfl ?_
  refine aw_bipush (v := 7) dX11_writeRows_295 (by decide) ?_
  refine aw_icmp_ne (tgt := 310) dX11_writeRows_297 (by decide) (fun c297 => ?_) (fun c297 => ?_)
  · replace hE := fif hE c297
    refine aw_aload_n dX11_writeRows_310 rfl ?_
    refine aw_aload_n dX11_writeRows_311 rfl ?_
    refine aw_iload dX11_writeRows_312 rfl ?_
    refine aw_callV dX11_writeRows_314 at_mod cvX11_265 rfl (kF_X11_colourOf mo mw mr ms mt mu dd wi hi gt sp ta li sr co hb _  v7 (fon_ne hE hF)) rfl (Nat.le_of_ble_eq_true rfl) (by decide) (by decide) (by decide) (by decide) (fun _ _ _ hf => False.elim hf) (fun r314 h314 n314 hp314 => ?_)
    obtain ⟨z314, s314, e314, rfl, rfl, rfl⟩ := hp314
    replace hE := fon_ok e314 hE
    refine aw_callV dX11_writeRows_317 at_mod cvX11_280 rfl (kF_X11_put_ mo mw mr ms mt mu dd wi hi gt sp ta li sr co hb _  z314 (fon_ne hE hF)) rfl (Nat.le_of_ble_eq_true rfl) (by decide) (by decide) (by decide) (by decide) (fun _ _ _ hf => False.elim hf) (fun r317 h317 n317 hp317 => ?_)
    obtain ⟨z317, s317, e317, rfl, rfl, rfl⟩ := hp317
    replace hE := fon_ok e317 hE
    exact aw_lv _ (List.forall_mem_cons.mpr ⟨rfl, (List.forall_mem_cons.mpr ⟨rfl, (List.forall_mem_cons.mpr ⟨rfl, (List.forall_mem_cons.mpr ⟨rfl, (List.forall_mem_cons.mpr ⟨rfl, (List.forall_mem_cons.mpr ⟨rfl, (List.forall_mem_cons.mpr ⟨rfl, fun _ h => absurd h List.not_mem_nil⟩)⟩)⟩)⟩)⟩)⟩)⟩) (b_X11_writeRows_320 mo mr ms mt dd wi hi gt sp ta li sr hb n  k204 hk204 k212 hk212 v1 v2 v4 v5 v6 v8 s317.1 s317.2 co _ hE hF)
  · replace hE := fit hE c297
    refine aw_aload_n dX11_writeRows_300 rfl ?_
    refine aw_iload dX11_writeRows_301 rfl ?_
    refine aw_iconst (v := 3) dX11_writeRows_303 (by decide) ?_
    refine aw_callV dX11_writeRows_304 at_mod cvX11_299 rfl (kF_X11_putBack mo mw mr ms mt mu dd wi hi gt sp ta li sr co hb _  v7 3 (fon_ne hE hF)) rfl (Nat.le_of_ble_eq_true rfl) (by decide) (by decide) (by decide) (by decide) (fun _ _ _ hf => False.elim hf) (fun r304 h304 n304 hp304 => ?_)
    obtain ⟨z304, s304, e304, rfl, rfl, rfl⟩ := hp304
    replace hE := fon_ok e304 hE
    refine aw_goto (tgt := 320) dX11_writeRows_307 (by decide) ?_
    exact aw_lv _ (List.forall_mem_cons.mpr ⟨rfl, (List.forall_mem_cons.mpr ⟨rfl, (List.forall_mem_cons.mpr ⟨rfl, (List.forall_mem_cons.mpr ⟨rfl, (List.forall_mem_cons.mpr ⟨rfl, (List.forall_mem_cons.mpr ⟨rfl, (List.forall_mem_cons.mpr ⟨rfl, fun _ h => absurd h List.not_mem_nil⟩)⟩)⟩)⟩)⟩)⟩)⟩) (b_X11_writeRows_320 mo mr ms mt dd wi hi gt sp ta li sr hb n  k204 hk204 k212 hk212 v1 v2 v4 v5 v6 v8 s304.1 s304.2 co _ hE hF)
def F_X11_writeRows_288 (dd : A) (wi : A) (hi : A) (k204 : Int32 → Int32 → Int32 → Int32 → MW → A → A → Out (MW × A × A) Unit) (k212 : Int32 → Int32 → Int32 → Int32 → Int32 → MW → A → A → Out (MW × A × A) Unit) (v1 : Int32) (v2 : Int32) (v4 : Int32) (v5 : Int32) (v6 : Int32) (v7 : Int32) (v8 : Int32) (mw : MW) (mu : A) (co : A) : Out (MW × A × A) Unit := fon (F_X11_put_ v8 mw mu) (fun z291 s291 => F_X11_writeRows_294 dd wi hi k204 k212 v1 v2 v4 v5 v6 v7 v8 s291.1 s291.2 co) (fun _ _ => fno)
set_option maxHeartbeats 1000000 in
set_option maxRecDepth 100000 in
theorem b_X11_writeRows_288 (mo : MO) (mr : MR) (ms : Nat) (mt : A) (dd : A) (wi : A) (hi : A) (gt : A) (sp : A) (ta : A) (li : A) (sr : A) (hb : aH) (n : Nat)  (k204 : Int32 → Int32 → Int32 → Int32 → MW → A → A → Out (MW × A × A) Unit) (hk204 : Q_X11_writeRows_204 mo mr ms mt dd wi hi gt sp ta li sr hb n k204) (k212 : Int32 → Int32 → Int32 → Int32 → Int32 → MW → A → A → Out (MW × A × A) Unit) (hk212 : Q_X11_writeRows_212 mo mr ms mt dd wi hi gt sp ta li sr hb n k212) : Q_X11_writeRows_288 mo mr ms mt dd wi hi gt sp ta li sr hb n (F_X11_writeRows_288 dd wi hi k204 k212) := by
  intro v1 v2 v4 v5 v6 v7 v8 mw mu co res hE hF
  unfold F_X11_writeRows_288 at hE
  refine aw_aload_n dX11_writeRows_288 rfl ?_
  refine aw_iload dX11_writeRows_289 rfl ?_
  refine aw_callV dX11_writeRows_291 at_mod cvX11_280 rfl (kF_X11_put_ mo mw mr ms mt mu dd wi hi gt sp ta li sr co hb _  v8 (fon_ne hE hF)) rfl (Nat.le_of_ble_eq_true rfl) (by decide) (by decide) (by decide) (by decide) (fun _ _ _ hf => False.elim hf) (fun r291 h291 n291 hp291 => ?_)
  obtain ⟨z291, s291, e291, rfl, rfl, rfl⟩ := hp291
  replace hE := fon_ok e291 hE
  exact aw_lv _ (List.forall_mem_cons.mpr ⟨rfl, (List.forall_mem_cons.mpr ⟨rfl, (List.forall_mem_cons.mpr ⟨rfl, (List.forall_mem_cons.mpr ⟨rfl, (List.forall_mem_cons.mpr ⟨rfl, (List.forall_mem_cons.mpr ⟨rfl, (List.forall_mem_cons.mpr ⟨rfl, (List.forall_mem_cons.mpr ⟨rfl, fun _ h => absurd h List.not_mem_nil⟩)⟩)⟩)⟩)⟩)⟩)⟩)⟩) (b_X11_writeRows_294 mo mr ms mt dd wi hi gt sp ta li sr hb n  k204 hk204 k212 hk212 v1 v2 v4 v5 v6 v7 v8 s291.1 s291.2 co _ hE hF)
def F_X11_writeRows_243 (dd : A) (wi : A) (hi : A) (k204 : Int32 → Int32 → Int32 → Int32 → MW → A → A → Out (MW × A × A) Unit) (k212 : Int32 → Int32 → Int32 → Int32 → Int32 → MW → A → A → Out (MW × A × A) Unit) (k243 : Int32 → Int32 → Int32 → Int32 → Int32 → Int32 → Int32 → MW → A → A → Out (MW × A × A) Unit) (v1 : Int32) (v2 : Int32) (v4 : Int32) (v5 : Int32) (v6 : Int32) (v7 : Int32) (v8 : Int32) (mw : MW) (mu : A) (co : A) : Out (MW × A × A) Unit := if 255 ≤ v8 then (F_X11_writeRows_288 dd wi hi k204 k212 v1 v2 v4 v5 v6 v7 v8 mw mu co) else (if inb v1 4 then (if (wi (Int32.toNatClampNeg v1)) ≤ (v6 + v8) then (F_X11_writeRows_288 dd wi hi k204 k212 v1 v2 v4 v5 v6 v7 v8 mw mu co) else (fon (F_X11_at v1 (v6 + v8) v5 dd wi) (fun z274 s274 => if z274 = v7 then (k243 v1 v2 v4 v5 v6 v7 (v8 + 1) mw mu co) else (F_X11_writeRows_288 dd wi hi k204 k212 v1 v2 v4 v5 v6 v7 v8 mw mu co)) (fun _ _ => fno))) else fno)
set_option maxHeartbeats 1000000 in
set_option maxRecDepth 100000 in
theorem b_X11_writeRows_243 (mo : MO) (mr : MR) (ms : Nat) (mt : A) (dd : A) (wi : A) (hi : A) (gt : A) (sp : A) (ta : A) (li : A) (sr : A) (hb : aH) (n : Nat)  (k204 : Int32 → Int32 → Int32 → Int32 → MW → A → A → Out (MW × A × A) Unit) (hk204 : Q_X11_writeRows_204 mo mr ms mt dd wi hi gt sp ta li sr hb n k204) (k212 : Int32 → Int32 → Int32 → Int32 → Int32 → MW → A → A → Out (MW × A × A) Unit) (hk212 : Q_X11_writeRows_212 mo mr ms mt dd wi hi gt sp ta li sr hb n k212) (k243 : Int32 → Int32 → Int32 → Int32 → Int32 → Int32 → Int32 → MW → A → A → Out (MW × A × A) Unit) (hk243 : Q_X11_writeRows_243 mo mr ms mt dd wi hi gt sp ta li sr hb n k243) : Q_X11_writeRows_243 mo mr ms mt dd wi hi gt sp ta li sr hb n (F_X11_writeRows_243 dd wi hi k204 k212 k243) := by
  intro v1 v2 v4 v5 v6 v7 v8 mw mu co res hE hF
  unfold F_X11_writeRows_243 at hE
  refine aw_iload dX11_writeRows_243 rfl ?_
  refine aw_sipush (v := 255) dX11_writeRows_245 (by decide) ?_
  refine aw_icmp_ge (tgt := 288) dX11_writeRows_248 (by decide) (fun c248 => ?_) (fun c248 => ?_)
  · replace hE := fit hE c248
    exact aw_lv _ (List.forall_mem_cons.mpr ⟨rfl, (List.forall_mem_cons.mpr ⟨rfl, (List.forall_mem_cons.mpr ⟨rfl, (List.forall_mem_cons.mpr ⟨rfl, (List.forall_mem_cons.mpr ⟨rfl, (List.forall_mem_cons.mpr ⟨rfl, (List.forall_mem_cons.mpr ⟨rfl, (List.forall_mem_cons.mpr ⟨rfl, fun _ h => absurd h List.not_mem_nil⟩)⟩)⟩)⟩)⟩)⟩)⟩)⟩) (b_X11_writeRows_288 mo mr ms mt dd wi hi gt sp ta li sr hb n  k204 hk204 k212 hk212 v1 v2 v4 v5 v6 v7 v8 mw mu co _ hE hF)
  · replace hE := fif hE c248
    refine aw_iload dX11_writeRows_251 rfl ?_
    refine aw_iload dX11_writeRows_253 rfl ?_
    refine aw_iadd dX11_writeRows_255 ?_
    refine aw_aload_n dX11_writeRows_256 rfl ?_
    refine aw_getf (v := .ref 35) dX11_writeRows_257 flX11_21_10 at_mod rfl ?_
    refine aw_iload_n dX11_writeRows_260 rfl ?_
    obtain ⟨g261, hE⟩ := fgd hE hF
    refine aw_iald (f := wi) dX11_writeRows_261 at_mwide (vp_in_iff.mpr g261) ?_
    refine aw_icmp_ge (tgt := 288) dX11_writeRows_262 (by decide) (fun c262 => ?_) (fun c262 => ?_)
    · replace hE := fit hE c262
      exact aw_lv _ (List.forall_mem_cons.mpr ⟨rfl, (List.forall_mem_cons.mpr ⟨rfl, (List.forall_mem_cons.mpr ⟨rfl, (List.forall_mem_cons.mpr ⟨rfl, (List.forall_mem_cons.mpr ⟨rfl, (List.forall_mem_cons.mpr ⟨rfl, (List.forall_mem_cons.mpr ⟨rfl, (List.forall_mem_cons.mpr ⟨rfl, fun _ h => absurd h List.not_mem_nil⟩)⟩)⟩)⟩)⟩)⟩)⟩)⟩) (b_X11_writeRows_288 mo mr ms mt dd wi hi gt sp ta li sr hb n  k204 hk204 k212 hk212 v1 v2 v4 v5 v6 v7 v8 mw mu co _ hE hF)
    · replace hE := fif hE c262
      refine aw_aload_n dX11_writeRows_265 rfl ?_
      refine aw_iload_n dX11_writeRows_266 rfl ?_
      refine aw_iload dX11_writeRows_267 rfl ?_
      refine aw_iload dX11_writeRows_269 rfl ?_
      refine aw_iadd dX11_writeRows_271 ?_
      refine aw_iload dX11_writeRows_272 rfl ?_
      refine aw_callV dX11_writeRows_274 at_mod cvX11_291 rfl (kF_X11_at mo mw mr ms mt mu dd wi hi gt sp ta li sr co hb _  v1 (v6 + v8) v5 (fon_ne hE hF)) rfl (Nat.le_of_ble_eq_true rfl) (by decide) (by decide) (by decide) (by decide) (fun _ _ _ hf => False.elim hf) (fun r274 h274 n274 hp274 => ?_)
      obtain ⟨z274, s274, e274, rfl, rfl, rfl⟩ := hp274
      replace hE := fon_ok e274 hE
      refine aw_iload dX11_writeRows_277 rfl ?_
      refine aw_icmp_ne (tgt := 288) dX11_writeRows_279 (by decide) (fun c279 => ?_) (fun c279 => ?_)
      · replace hE := fif hE c279
        exact aw_lv _ (List.forall_mem_cons.mpr ⟨rfl, (List.forall_mem_cons.mpr ⟨rfl, (List.forall_mem_cons.mpr ⟨rfl, (List.forall_mem_cons.mpr ⟨rfl, (List.forall_mem_cons.mpr ⟨rfl, (List.forall_mem_cons.mpr ⟨rfl, (List.forall_mem_cons.mpr ⟨rfl, (List.forall_mem_cons.mpr ⟨rfl, fun _ h => absurd h List.not_mem_nil⟩)⟩)⟩)⟩)⟩)⟩)⟩)⟩) (b_X11_writeRows_288 mo mr ms mt dd wi hi gt sp ta li sr hb n  k204 hk204 k212 hk212 v1 v2 v4 v5 v6 v7 v8 mw mu co _ hE hF)
      · replace hE := fit hE c279
        refine aw_iinc (v := (v8 + 1)) (lv2 := [(8, _), (0, _), (1, _), (2, _), (4, _), (5, _), (6, _), (7, _)]) dX11_writeRows_282 rfl (incE (by decide)) (by decide) rfl ?_
        refine aw_goto (tgt := 243) dX11_writeRows_285 (by decide) ?_
        exact aw_lv _ (List.forall_mem_cons.mpr ⟨rfl, (List.forall_mem_cons.mpr ⟨rfl, (List.forall_mem_cons.mpr ⟨rfl, (List.forall_mem_cons.mpr ⟨rfl, (List.forall_mem_cons.mpr ⟨rfl, (List.forall_mem_cons.mpr ⟨rfl, (List.forall_mem_cons.mpr ⟨rfl, (List.forall_mem_cons.mpr ⟨rfl, fun _ h => absurd h List.not_mem_nil⟩)⟩)⟩)⟩)⟩)⟩)⟩)⟩) (hk243 v1 v2 v4 v5 v6 v7 (v8 + 1) mw mu co _ hE hF)
def F_X11_writeRows_212 (dd : A) (wi : A) (hi : A) (k204 : Int32 → Int32 → Int32 → Int32 → MW → A → A → Out (MW × A × A) Unit) (k212 : Int32 → Int32 → Int32 → Int32 → Int32 → MW → A → A → Out (MW × A × A) Unit) (v1 : Int32) (v2 : Int32) (v4 : Int32) (v5 : Int32) (v6 : Int32) (mw : MW) (mu : A) (co : A) : Out (MW × A × A) Unit := if inb v1 4 then (if (wi (Int32.toNatClampNeg v1)) ≤ v6 then (if v2 = 9 then (fon (F_X11_put_ 0 mw mu) (fun z338 s338 => if v5 = 0 then (F_X11_writeRows_352 dd wi hi k204 v1 v2 v4 v5 (1 : Int32) s338.1 s338.2 co) else (F_X11_writeRows_352 dd wi hi k204 v1 v2 v4 v5 (0 : Int32) s338.1 s338.2 co)) (fun _ _ => fno)) else (lp (fun _ _ _ _ _ _ _ => fno) (F_X11_writeRows_358 dd wi hi k204) FU v1 v2 v4 v5 mw mu co)) else (fon (F_X11_at v1 v6 v5 dd wi) (fun z229 s229 => if v2 = 9 then (lp (fun _ _ _ _ _ _ _ _ _ _ => fno) (F_X11_writeRows_243 dd wi hi k204 k212) FU v1 v2 v4 v5 v6 z229 (1 : Int32) mw mu co) else (F_X11_writeRows_294 dd wi hi k204 k212 v1 v2 v4 v5 v6 z229 (1 : Int32) mw mu co)) (fun _ _ => fno))) else fno
set_option maxHeartbeats 1000000 in
set_option maxRecDepth 100000 in
theorem b_X11_writeRows_212 (mo : MO) (mr : MR) (ms : Nat) (mt : A) (dd : A) (wi : A) (hi : A) (gt : A) (sp : A) (ta : A) (li : A) (sr : A) (hb : aH) (n : Nat)  (k204 : Int32 → Int32 → Int32 → Int32 → MW → A → A → Out (MW × A × A) Unit) (hk204 : Q_X11_writeRows_204 mo mr ms mt dd wi hi gt sp ta li sr hb n k204) (k212 : Int32 → Int32 → Int32 → Int32 → Int32 → MW → A → A → Out (MW × A × A) Unit) (hk212 : Q_X11_writeRows_212 mo mr ms mt dd wi hi gt sp ta li sr hb n k212) : Q_X11_writeRows_212 mo mr ms mt dd wi hi gt sp ta li sr hb n (F_X11_writeRows_212 dd wi hi k204 k212) := by
  intro v1 v2 v4 v5 v6 mw mu co res hE hF
  unfold F_X11_writeRows_212 at hE
  refine aw_iload dX11_writeRows_212 rfl ?_
  refine aw_aload_n dX11_writeRows_214 rfl ?_
  refine aw_getf (v := .ref 35) dX11_writeRows_215 flX11_21_10 at_mod rfl ?_
  refine aw_iload_n dX11_writeRows_218 rfl ?_
  obtain ⟨g219, hE⟩ := fgd hE hF
  refine aw_iald (f := wi) dX11_writeRows_219 at_mwide (vp_in_iff.mpr g219) ?_
  refine aw_icmp_ge (tgt := 330) dX11_writeRows_220 (by decide) (fun c220 => ?_) (fun c220 => ?_)
  · replace hE := fit hE c220
    refine aw_iload_n dX11_writeRows_330 rfl ?_
    refine aw_bipush (v := 9) dX11_writeRows_331 (by decide) ?_
    refine aw_icmp_ne (tgt := 358) dX11_writeRows_333 (by decide) (fun c333 => ?_) (fun c333 => ?_)
    · replace hE := fif hE c333
      exact aw_lv _ (List.forall_mem_cons.mpr ⟨rfl, (List.forall_mem_cons.mpr ⟨rfl, (List.forall_mem_cons.mpr ⟨rfl, (List.forall_mem_cons.mpr ⟨rfl, (List.forall_mem_cons.mpr ⟨rfl, fun _ h => absurd h List.not_mem_nil⟩)⟩)⟩)⟩)⟩) (lp_ind (Q_X11_writeRows_358 mo mr ms mt dd wi hi gt sp ta li sr hb n) (fun _ _ _ _ _ _ _ res hq hF => (hF hq.symm).elim) (fun k hk => b_X11_writeRows_358 mo mr ms mt dd wi hi gt sp ta li sr hb n  k204 hk204 k hk) FU v1 v2 v4 v5 mw mu co _ hE hF)
    · replace hE := fit hE c333
      refine aw_aload_n dX11_writeRows_336 rfl ?_
      refine aw_iconst (v := 0) dX11_writeRows_337 (by decide) ?_
      refine aw_callV dX11_writeRows_338 at_mod cvX11_280 rfl (kF_X11_put_ mo mw mr ms mt mu dd wi hi gt sp ta li sr co hb _  0 (fon_ne hE hF)) rfl (Nat.le_of_ble_eq_true rfl) (by decide) (by decide) (by decide) (by decide) (fun _ _ _ hf => False.elim hf) (fun r338 h338 n338 hp338 => ?_)
      obtain ⟨z338, s338, e338, rfl, rfl, rfl⟩ := hp338
      replace hE := fon_ok e338 hE
      refine aw_aload_n dX11_writeRows_341 rfl ?_
      refine aw_iload dX11_writeRows_342 rfl ?_
      refine aw_if_ne (tgt := 351) dX11_writeRows_344 (by decide) (fun c344 => ?_) (fun c344 => ?_)
      · replace hE := fif hE c344
        refine aw_iconst (v := 0) dX11_writeRows_351 (by decide) ?_
        exact aw_lv _ (List.forall_mem_cons.mpr ⟨rfl, (List.forall_mem_cons.mpr ⟨rfl, (List.forall_mem_cons.mpr ⟨rfl, (List.forall_mem_cons.mpr ⟨rfl, (List.forall_mem_cons.mpr ⟨rfl, fun _ h => absurd h List.not_mem_nil⟩)⟩)⟩)⟩)⟩) (b_X11_writeRows_352 mo mr ms mt dd wi hi gt sp ta li sr hb n  k204 hk204 v1 v2 v4 v5 (0 : Int32) s338.1 s338.2 co _ hE hF)
      · replace hE := fit hE c344
        refine aw_iconst (v := 1) dX11_writeRows_347 (by decide) ?_
        refine aw_goto (tgt := 352) dX11_writeRows_348 (by decide) ?_
        exact aw_lv _ (List.forall_mem_cons.mpr ⟨rfl, (List.forall_mem_cons.mpr ⟨rfl, (List.forall_mem_cons.mpr ⟨rfl, (List.forall_mem_cons.mpr ⟨rfl, (List.forall_mem_cons.mpr ⟨rfl, fun _ h => absurd h List.not_mem_nil⟩)⟩)⟩)⟩)⟩) (b_X11_writeRows_352 mo mr ms mt dd wi hi gt sp ta li sr hb n  k204 hk204 v1 v2 v4 v5 (1 : Int32) s338.1 s338.2 co _ hE hF)
  · replace hE := fif hE c220
    refine aw_aload_n dX11_writeRows_223 rfl ?_
    refine aw_iload_n dX11_writeRows_224 rfl ?_
    refine aw_iload dX11_writeRows_225 rfl ?_
    refine aw_iload dX11_writeRows_227 rfl ?_
    refine aw_callV dX11_writeRows_229 at_mod cvX11_291 rfl (kF_X11_at mo mw mr ms mt mu dd wi hi gt sp ta li sr co hb _  v1 v6 v5 (fon_ne hE hF)) rfl (Nat.le_of_ble_eq_true rfl) (by decide) (by decide) (by decide) (by decide) (fun _ _ _ hf => False.elim hf) (fun r229 h229 n229 hp229 => ?_)
    obtain ⟨z229, s229, e229, rfl, rfl, rfl⟩ := hp229
    replace hE := fon_ok e229 hE
    refine aw_istore (lv2 := [(7, _), (0, _), (1, _), (2, _), (4, _), (5, _), (6, _)]) dX11_writeRows_232 (by decide) rfl ?_
    refine aw_iconst (v := 1) dX11_writeRows_234 (by decide) ?_
    refine aw_istore (lv2 := [(8, _), (7, _), (0, _), (1, _), (2, _), (4, _), (5, _), (6, _)]) dX11_writeRows_235 (by decide) rfl ?_
    refine aw_iload_n dX11_writeRows_237 rfl ?_
    refine aw_bipush (v := 9) dX11_writeRows_238 (by decide) ?_
    refine aw_icmp_ne (tgt := 294) dX11_writeRows_240 (by decide) (fun c240 => ?_) (fun c240 => ?_)
    · replace hE := fif hE c240
      exact aw_lv _ (List.forall_mem_cons.mpr ⟨rfl, (List.forall_mem_cons.mpr ⟨rfl, (List.forall_mem_cons.mpr ⟨rfl, (List.forall_mem_cons.mpr ⟨rfl, (List.forall_mem_cons.mpr ⟨rfl, (List.forall_mem_cons.mpr ⟨rfl, (List.forall_mem_cons.mpr ⟨rfl, (List.forall_mem_cons.mpr ⟨rfl, fun _ h => absurd h List.not_mem_nil⟩)⟩)⟩)⟩)⟩)⟩)⟩)⟩) (b_X11_writeRows_294 mo mr ms mt dd wi hi gt sp ta li sr hb n  k204 hk204 k212 hk212 v1 v2 v4 v5 v6 z229 (1 : Int32) mw mu co _ hE hF)
    · replace hE := fit hE c240
      exact aw_lv _ (List.forall_mem_cons.mpr ⟨rfl, (List.forall_mem_cons.mpr ⟨rfl, (List.forall_mem_cons.mpr ⟨rfl, (List.forall_mem_cons.mpr ⟨rfl, (List.forall_mem_cons.mpr ⟨rfl, (List.forall_mem_cons.mpr ⟨rfl, (List.forall_mem_cons.mpr ⟨rfl, (List.forall_mem_cons.mpr ⟨rfl, fun _ h => absurd h List.not_mem_nil⟩)⟩)⟩)⟩)⟩)⟩)⟩)⟩) (lp_ind (Q_X11_writeRows_243 mo mr ms mt dd wi hi gt sp ta li sr hb n) (fun _ _ _ _ _ _ _ _ _ _ res hq hF => (hF hq.symm).elim) (fun k hk => b_X11_writeRows_243 mo mr ms mt dd wi hi gt sp ta li sr hb n  k204 hk204 k212 hk212 k hk) FU v1 v2 v4 v5 v6 z229 (1 : Int32) mw mu co _ hE hF)
def F_X11_writeRows_204 (dd : A) (wi : A) (hi : A) (k204 : Int32 → Int32 → Int32 → Int32 → MW → A → A → Out (MW × A × A) Unit) (v1 : Int32) (v2 : Int32) (v4 : Int32) (v5 : Int32) (mw : MW) (mu : A) (co : A) : Out (MW × A × A) Unit := if v5 < 0 then (fon (F_X11_mend 2 (mw_om mw) mu) (fun z390 s390 => fon (F_X11_mend 34 ((mw_om mw) - v4) s390) (fun z403 s403 => fok () (mw, s403, co)) (fun _ _ => fno)) (fun _ _ => fno)) else (lp (fun _ _ _ _ _ _ _ _ => fno) (F_X11_writeRows_212 dd wi hi k204) FU v1 v2 v4 v5 (0 : Int32) mw mu co)
set_option maxHeartbeats 1000000 in
set_option maxRecDepth 100000 in
theorem b_X11_writeRows_204 (mo : MO) (mr : MR) (ms : Nat) (mt : A) (dd : A) (wi : A) (hi : A) (gt : A) (sp : A) (ta : A) (li : A) (sr : A) (hb : aH) (n : Nat)  (k204 : Int32 → Int32 → Int32 → Int32 → MW → A → A → Out (MW × A × A) Unit) (hk204 : Q_X11_writeRows_204 mo mr ms mt dd wi hi gt sp ta li sr hb n k204) : Q_X11_writeRows_204 mo mr ms mt dd wi hi gt sp ta li sr hb n (F_X11_writeRows_204 dd wi hi k204) := by
  intro v1 v2 v4 v5 mw mu co res hE hF
  unfold F_X11_writeRows_204 at hE
  refine aw_iload dX11_writeRows_204 rfl ?_
  refine aw_if_lt (tgt := 384) dX11_writeRows_206 (by decide) (fun c206 => ?_) (fun c206 => ?_)
  · replace hE := fit hE c206
    refine aw_aload_n dX11_writeRows_384 rfl ?_
    refine aw_iconst (v := 2) dX11_writeRows_385 (by decide) ?_
    refine aw_aload_n dX11_writeRows_386 rfl ?_
    refine aw_getf (v := .int (mw_om mw)) dX11_writeRows_387 flX11_75_10 at_mod rfl ?_
    refine aw_callV dX11_writeRows_390 at_mod cvX11_302 rfl (kF_X11_mend mo mw mr ms mt mu dd wi hi gt sp ta li sr co hb _  2 (mw_om mw) (fon_ne hE hF)) rfl (Nat.le_of_ble_eq_true rfl) (by decide) (by decide) (by decide) (by decide) (fun _ _ _ hf => False.elim hf) (fun r390 h390 n390 hp390 => ?_)
    obtain ⟨z390, s390, e390, rfl, rfl, rfl⟩ := hp390
    replace hE := fon_ok e390 hE
    refine aw_aload_n dX11_writeRows_393 rfl ?_
    refine aw_bipush (v := 34) dX11_writeRows_394 (by decide) ?_
    refine aw_aload_n dX11_writeRows_396 rfl ?_
    refine aw_getf (v := .int (mw_om mw)) dX11_writeRows_397 flX11_75_10 at_mod rfl ?_
    refine aw_iload dX11_writeRows_400 rfl ?_
    refine aw_isub dX11_writeRows_402 ?_
    refine aw_callV dX11_writeRows_403 at_mod cvX11_302 rfl (kF_X11_mend mo mw mr ms mt s390 dd wi hi gt sp ta li sr co hb _  34 ((mw_om mw) - v4) (fon_ne hE hF)) rfl (Nat.le_of_ble_eq_true rfl) (by decide) (by decide) (by decide) (by decide) (fun _ _ _ hf => False.elim hf) (fun r403 h403 n403 hp403 => ?_)
    obtain ⟨z403, s403, e403, rfl, rfl, rfl⟩ := hp403
    replace hE := fon_ok e403 hE
    exact aw_vret dX11_writeRows_406 rfl (Nat.zero_le _) (Nat.zero_le _) (Nat.zero_le _) (Nat.zero_le _) ⟨_, _, hE.symm, rfl, rfl, rfl⟩
  · replace hE := fif hE c206
    refine aw_iconst (v := 0) dX11_writeRows_209 (by decide) ?_
    refine aw_istore (lv2 := [(6, _), (0, _), (1, _), (2, _), (4, _), (5, _)]) dX11_writeRows_210 (by decide) rfl ?_
    exact aw_lv _ (List.forall_mem_cons.mpr ⟨rfl, (List.forall_mem_cons.mpr ⟨rfl, (List.forall_mem_cons.mpr ⟨rfl, (List.forall_mem_cons.mpr ⟨rfl, (List.forall_mem_cons.mpr ⟨rfl, (List.forall_mem_cons.mpr ⟨rfl, fun _ h => absurd h List.not_mem_nil⟩)⟩)⟩)⟩)⟩)⟩) (lp_ind (Q_X11_writeRows_212 mo mr ms mt dd wi hi gt sp ta li sr hb n) (fun _ _ _ _ _ _ _ _ res hq hF => (hF hq.symm).elim) (fun k hk => b_X11_writeRows_212 mo mr ms mt dd wi hi gt sp ta li sr hb n  k204 hk204 k hk) FU v1 v2 v4 v5 (0 : Int32) mw mu co _ hE hF)
def F_X11_writeRows_159 (dd : A) (wi : A) (hi : A) (k159 : Int32 → Int32 → Int32 → Int32 → MW → A → A → Out (MW × A × A) Unit) (v1 : Int32) (v2 : Int32) (v3 : Int32) (v4 : Int32) (mw : MW) (mu : A) (co : A) : Out (MW × A × A) Unit := if v3 ≤ v4 then (if inb v1 4 then (lp (fun _ _ _ _ _ _ _ => fno) (F_X11_writeRows_204 dd wi hi) FU v1 v2 (mw_om mw) ((hi (Int32.toNatClampNeg v1)) - 1) mw mu co) else fno) else (if inb v4 256 then (fon (F_X11_putBack (co (Int32.toNatClampNeg v4)) 3 mw mu) (fun z174 s174 => fon (F_X11_put_ 0 s174.1 s174.2) (fun z179 s179 => k159 v1 v2 v3 (v4 + 1) s179.1 s179.2 co) (fun _ _ => fno)) (fun _ _ => fno)) else fno)
set_option maxHeartbeats 1000000 in
set_option maxRecDepth 100000 in
theorem b_X11_writeRows_159 (mo : MO) (mr : MR) (ms : Nat) (mt : A) (dd : A) (wi : A) (hi : A) (gt : A) (sp : A) (ta : A) (li : A) (sr : A) (hb : aH) (n : Nat)  (k159 : Int32 → Int32 → Int32 → Int32 → MW → A → A → Out (MW × A × A) Unit) (hk159 : Q_X11_writeRows_159 mo mr ms mt dd wi hi gt sp ta li sr hb n k159) : Q_X11_writeRows_159 mo mr ms mt dd wi hi gt sp ta li sr hb n (F_X11_writeRows_159 dd wi hi k159) := by
  intro v1 v2 v3 v4 mw mu co res hE hF
  unfold F_X11_writeRows_159 at hE
  refine aw_iload dX11_writeRows_159 rfl ?_
  refine aw_iload_n dX11_writeRows_161 rfl ?_
  refine aw_icmp_ge (tgt := 188) dX11_writeRows_162 (by decide) (fun c162 => ?_) (fun c162 => ?_)
  · replace hE := fit hE c162
    refine aw_aload_n dX11_writeRows_188 rfl ?_
    refine aw_getf (v := .int (mw_om mw)) dX11_writeRows_189 flX11_75_10 at_mod rfl ?_
    refine aw_istore (lv2 := [(4, _), (0, _), (1, _), (2, _), (3, _)]) dX11_writeRows_192 (by decide) rfl ?_
    refine aw_aload_n dX11_writeRows_194 rfl ?_
    refine aw_getf (v := .ref 36) dX11_writeRows_195 flX11_24_10 at_mod rfl ?_
    refine aw_iload_n dX11_writeRows_198 rfl ?_
    obtain ⟨g199, hE⟩ := fgd hE hF
    refine aw_iald (f := hi) dX11_writeRows_199 at_mhigh (vp_in_iff.mpr g199) ?_
    refine aw_iconst (v := 1) dX11_writeRows_200 (by decide) ?_
    refine aw_isub dX11_writeRows_201 ?_
    refine aw_istore (lv2 := [(5, _), (4, _), (0, _), (1, _), (2, _), (3, _)]) dX11_writeRows_202 (by decide) rfl ?_
    exact aw_lv _ (List.forall_mem_cons.mpr ⟨rfl, (List.forall_mem_cons.mpr ⟨rfl, (List.forall_mem_cons.mpr ⟨rfl, (List.forall_mem_cons.mpr ⟨rfl, (List.forall_mem_cons.mpr ⟨rfl, fun _ h => absurd h List.not_mem_nil⟩)⟩)⟩)⟩)⟩) (lp_ind (Q_X11_writeRows_204 mo mr ms mt dd wi hi gt sp ta li sr hb n) (fun _ _ _ _ _ _ _ res hq hF => (hF hq.symm).elim) (fun k hk => b_X11_writeRows_204 mo mr ms mt dd wi hi gt sp ta li sr hb n   k hk) FU v1 v2 (mw_om mw) ((hi (Int32.toNatClampNeg v1)) - 1) mw mu co _ hE hF)
  · replace hE := fif hE c162
    refine aw_aload_n dX11_writeRows_165 rfl ?_
    refine aw_aload_n dX11_writeRows_166 rfl ?_
    refine aw_getf (v := .ref 42) dX11_writeRows_167 flX11_58_10 at_mod rfl ?_
    refine aw_iload dX11_writeRows_170 rfl ?_
    obtain ⟨g172, hE⟩ := fgd hE hF
    refine aw_iald (f := co) dX11_writeRows_172 at_mcols (vp_in_iff.mpr g172) ?_
    refine aw_iconst (v := 3) dX11_writeRows_173 (by decide) ?_
    refine aw_callV dX11_writeRows_174 at_mod cvX11_299 rfl (kF_X11_putBack mo mw mr ms mt mu dd wi hi gt sp ta li sr co hb _  (co (Int32.toNatClampNeg v4)) 3 (fon_ne hE hF)) rfl (Nat.le_of_ble_eq_true rfl) (by decide) (by decide) (by decide) (by decide) (fun _ _ _ hf => False.elim hf) (fun r174 h174 n174 hp174 => ?_)
    obtain ⟨z174, s174, e174, rfl, rfl, rfl⟩ := hp174
    replace hE := fon_ok e174 hE
    refine aw_aload_n dX11_writeRows_177 rfl ?_
    refine aw_iconst (v := 0) dX11_writeRows_178 (by decide) ?_
    refine aw_callV dX11_writeRows_179 at_mod cvX11_280 rfl (kF_X11_put_ mo s174.1 mr ms mt s174.2 dd wi hi gt sp ta li sr co hb _  0 (fon_ne hE hF)) rfl (Nat.le_of_ble_eq_true rfl) (by decide) (by decide) (by decide) (by decide) (fun _ _ _ hf => False.elim hf) (fun r179 h179 n179 hp179 => ?_)
    obtain ⟨z179, s179, e179, rfl, rfl, rfl⟩ := hp179
    replace hE := fon_ok e179 hE
    refine aw_iinc (v := (v4 + 1)) (lv2 := [(4, _), (0, _), (1, _), (2, _), (3, _)]) dX11_writeRows_182 rfl (incE (by decide)) (by decide) rfl ?_
    refine aw_goto (tgt := 159) dX11_writeRows_185 (by decide) ?_
    exact aw_lv _ (List.forall_mem_cons.mpr ⟨rfl, (List.forall_mem_cons.mpr ⟨rfl, (List.forall_mem_cons.mpr ⟨rfl, (List.forall_mem_cons.mpr ⟨rfl, (List.forall_mem_cons.mpr ⟨rfl, fun _ h => absurd h List.not_mem_nil⟩)⟩)⟩)⟩)⟩) (hk159 v1 v2 v3 (v4 + 1) s179.1 s179.2 co _ hE hF)
def F_X11_writeRows_118 (dd : A) (wi : A) (hi : A)  (v1 : Int32) (v2 : Int32) (v3 : Int32) (t0 : Int32) (mw : MW) (mu : A) (co : A) : Out (MW × A × A) Unit := fon (F_X11_putLow t0 4 mw mu) (fun z119 s119 => fon (F_X11_putLow 0 4 s119.1 s119.2) (fun z125 s125 => fon (F_X11_putLow 2835 4 s125.1 s125.2) (fun z133 s133 => fon (F_X11_putLow 2835 4 s133.1 s133.2) (fun z141 s141 => fon (F_X11_putLow v3 4 s141.1 s141.2) (fun z147 s147 => fon (F_X11_putLow 0 4 s147.1 s147.2) (fun z153 s153 => lp (fun _ _ _ _ _ _ _ => fno) (F_X11_writeRows_159 dd wi hi) FU v1 v2 v3 (0 : Int32) s153.1 s153.2 co) (fun _ _ => fno)) (fun _ _ => fno)) (fun _ _ => fno)) (fun _ _ => fno)) (fun _ _ => fno)) (fun _ _ => fno)
set_option maxHeartbeats 1000000 in
set_option maxRecDepth 100000 in
theorem b_X11_writeRows_118 (mo : MO) (mr : MR) (ms : Nat) (mt : A) (dd : A) (wi : A) (hi : A) (gt : A) (sp : A) (ta : A) (li : A) (sr : A) (hb : aH) (n : Nat)   : Q_X11_writeRows_118 mo mr ms mt dd wi hi gt sp ta li sr hb n (F_X11_writeRows_118 dd wi hi) := by
  intro v1 v2 v3 t0 mw mu co res hE hF
  unfold F_X11_writeRows_118 at hE
  refine aw_iconst (v := 4) dX11_writeRows_118 (by decide) ?_
  refine aw_callV dX11_writeRows_119 at_mod cvX11_296 rfl (kF_X11_putLow mo mw mr ms mt mu dd wi hi gt sp ta li sr co hb _  t0 4 (fon_ne hE hF)) rfl (Nat.le_of_ble_eq_true rfl) (by decide) (by decide) (by decide) (by decide) (fun _ _ _ hf => False.elim hf) (fun r119 h119 n119 hp119 => ?_)
  obtain ⟨z119, s119, e119, rfl, rfl, rfl⟩ := hp119
  replace hE := fon_ok e119 hE
  refine aw_aload_n dX11_writeRows_122 rfl ?_
  refine aw_iconst (v := 0) dX11_writeRows_123 (by decide) ?_
  refine aw_iconst (v := 4) dX11_writeRows_124 (by decide) ?_
  refine aw_callV dX11_writeRows_125 at_mod cvX11_296 rfl (kF_X11_putLow mo s119.1 mr ms mt s119.2 dd wi hi gt sp ta li sr co hb _  0 4 (fon_ne hE hF)) rfl (Nat.le_of_ble_eq_true rfl) (by decide) (by decide) (by decide) (by decide) (fun _ _ _ hf => False.elim hf) (fun r125 h125 n125 hp125 => ?_)
  obtain ⟨z125, s125, e125, rfl, rfl, rfl⟩ := hp125
  replace hE := fon_ok e125 hE
  refine aw_aload_n dX11_writeRows_128 rfl ?_
  refine aw_sipush (v := 2835) dX11_writeRows_129 (by decide) ?_
  refine aw_iconst (v := 4) dX11_writeRows_132 (by decide) ?_
  refine aw_callV dX11_writeRows_133 at_mod cvX11_296 rfl (kF_X11_putLow mo s125.1 mr ms mt s125.2 dd wi hi gt sp ta li sr co hb _  2835 4 (fon_ne hE hF)) rfl (Nat.le_of_ble_eq_true rfl) (by decide) (by decide) (by decide) (by decide) (fun _ _ _ hf => False.elim hf) (fun r133 h133 n133 hp133 => ?_)
  obtain ⟨z133, s133, e133, rfl, rfl, rfl⟩ := hp133
  replace hE := fon_ok e133 hE
  refine aw_aload_n dX11_writeRows_136 rfl ?_
  refine aw_sipush (v := 2835) dX11_writeRows_137 (by decide) ?_
  refine aw_iconst (v := 4) dX11_writeRows_140 (by decide) ?_
  refine aw_callV dX11_writeRows_141 at_mod cvX11_296 rfl (kF_X11_putLow mo s133.1 mr ms mt s133.2 dd wi hi gt sp ta li sr co hb _  2835 4 (fon_ne hE hF)) rfl (Nat.le_of_ble_eq_true rfl) (by decide) (by decide) (by decide) (by decide) (fun _ _ _ hf => False.elim hf) (fun r141 h141 n141 hp141 => ?_)
  obtain ⟨z141, s141, e141, rfl, rfl, rfl⟩ := hp141
  replace hE := fon_ok e141 hE
  refine aw_aload_n dX11_writeRows_144 rfl ?_
  refine aw_iload_n dX11_writeRows_145 rfl ?_
  refine aw_iconst (v := 4) dX11_writeRows_146 (by decide) ?_
  refine aw_callV dX11_writeRows_147 at_mod cvX11_296 rfl (kF_X11_putLow mo s141.1 mr ms mt s141.2 dd wi hi gt sp ta li sr co hb _  v3 4 (fon_ne hE hF)) rfl (Nat.le_of_ble_eq_true rfl) (by decide) (by decide) (by decide) (by decide) (fun _ _ _ hf => False.elim hf) (fun r147 h147 n147 hp147 => ?_)
  obtain ⟨z147, s147, e147, rfl, rfl, rfl⟩ := hp147
  replace hE := fon_ok e147 hE
  refine aw_aload_n dX11_writeRows_150 rfl ?_
  refine aw_iconst (v := 0) dX11_writeRows_151 (by decide) ?_
  refine aw_iconst (v := 4) dX11_writeRows_152 (by decide) ?_
  refine aw_callV dX11_writeRows_153 at_mod cvX11_296 rfl (kF_X11_putLow mo s147.1 mr ms mt s147.2 dd wi hi gt sp ta li sr co hb _  0 4 (fon_ne hE hF)) rfl (Nat.le_of_ble_eq_true rfl) (by decide) (by decide) (by decide) (by decide) (fun _ _ _ hf => False.elim hf) (fun r153 h153 n153 hp153 => ?_)
  obtain ⟨z153, s153, e153, rfl, rfl, rfl⟩ := hp153
  replace hE := fon_ok e153 hE
  refine aw_iconst (v := 0) dX11_writeRows_156 (by decide) ?_
  refine aw_istore (lv2 := [(4, _), (0, _), (1, _), (2, _), (3, _)]) dX11_writeRows_157 (by decide) rfl ?_
  exact aw_lv _ (List.forall_mem_cons.mpr ⟨rfl, (List.forall_mem_cons.mpr ⟨rfl, (List.forall_mem_cons.mpr ⟨rfl, (List.forall_mem_cons.mpr ⟨rfl, (List.forall_mem_cons.mpr ⟨rfl, fun _ h => absurd h List.not_mem_nil⟩)⟩)⟩)⟩)⟩) (lp_ind (Q_X11_writeRows_159 mo mr ms mt dd wi hi gt sp ta li sr hb n) (fun _ _ _ _ _ _ _ res hq hF => (hF hq.symm).elim) (fun k hk => b_X11_writeRows_159 mo mr ms mt dd wi hi gt sp ta li sr hb n   k hk) FU v1 v2 v3 (0 : Int32) s153.1 s153.2 co _ hE hF)
def F_X11_writeRows_102 (dd : A) (wi : A) (hi : A)  (v1 : Int32) (v2 : Int32) (v3 : Int32) (t0 : Int32) (mw : MW) (mu : A) (co : A) : Out (MW × A × A) Unit := fon (F_X11_putLow t0 2 mw mu) (fun z103 s103 => if v2 = 9 then (F_X11_writeRows_118 dd wi hi v1 v2 v3 (1 : Int32) s103.1 s103.2 co) else (F_X11_writeRows_118 dd wi hi v1 v2 v3 (0 : Int32) s103.1 s103.2 co)) (fun _ _ => fno)
set_option maxHeartbeats 1000000 in
set_option maxRecDepth 100000 in
theorem b_X11_writeRows_102 (mo : MO) (mr : MR) (ms : Nat) (mt : A) (dd : A) (wi : A) (hi : A) (gt : A) (sp : A) (ta : A) (li : A) (sr : A) (hb : aH) (n : Nat)   : Q_X11_writeRows_102 mo mr ms mt dd wi hi gt sp ta li sr hb n (F_X11_writeRows_102 dd wi hi) := by
  intro v1 v2 v3 t0 mw mu co res hE hF
  unfold F_X11_writeRows_102 at hE
  refine aw_iconst (v := 2) dX11_writeRows_102 (by decide) ?_
  refine aw_callV dX11_writeRows_103 at_mod cvX11_296 rfl (kF_X11_putLow mo mw mr ms mt mu dd wi hi gt sp ta li sr co hb _  t0 2 (fon_ne hE hF)) rfl (Nat.le_of_ble_eq_true rfl) (by decide) (by decide) (by decide) (by decide) (fun _ _ _ hf => False.elim hf) (fun r103 h103 n103 hp103 => ?_)
  obtain ⟨z103, s103, e103, rfl, rfl, rfl⟩ := hp103
  replace hE := fon_ok e103 hE
  refine aw_aload_n dX11_writeRows_106 rfl ?_
  refine aw_iload_n dX11_writeRows_107 rfl ?_
  refine aw_bipush (v := 9) dX11_writeRows_108 (by decide) ?_
  refine aw_icmp_ne (tgt := 117) dX11_writeRows_110 (by decide) (fun c110 => ?_) (fun c110 => ?_)
  · replace hE := fif hE c110
    refine aw_iconst (v := 0) dX11_writeRows_117 (by decide) ?_
    exact aw_lv _ (List.forall_mem_cons.mpr ⟨rfl, (List.forall_mem_cons.mpr ⟨rfl, (List.forall_mem_cons.mpr ⟨rfl, (List.forall_mem_cons.mpr ⟨rfl, fun _ h => absurd h List.not_mem_nil⟩)⟩)⟩)⟩) (b_X11_writeRows_118 mo mr ms mt dd wi hi gt sp ta li sr hb n   v1 v2 v3 (0 : Int32) s103.1 s103.2 co _ hE hF)
  · replace hE := fit hE c110
    refine aw_iconst (v := 1) dX11_writeRows_113 (by decide) ?_
    refine aw_goto (tgt := 118) dX11_writeRows_114 (by decide) ?_
    exact aw_lv _ (List.forall_mem_cons.mpr ⟨rfl, (List.forall_mem_cons.mpr ⟨rfl, (List.forall_mem_cons.mpr ⟨rfl, (List.forall_mem_cons.mpr ⟨rfl, fun _ h => absurd h List.not_mem_nil⟩)⟩)⟩)⟩) (b_X11_writeRows_118 mo mr ms mt dd wi hi gt sp ta li sr hb n   v1 v2 v3 (1 : Int32) s103.1 s103.2 co _ hE hF)
def F_X11_writeRows_18 (dd : A) (wi : A) (hi : A)  (v1 : Int32) (v2 : Int32) (v3 : Int32) (mw : MW) (mu : A) (co : A) : Out (MW × A × A) Unit := fon (F_X11_put_ 66 mw mu) (fun z21 s21 => fon (F_X11_put_ 77 s21.1 s21.2) (fun z27 s27 => fon (F_X11_putLow 0 4 s27.1 s27.2) (fun z33 s33 => fon (F_X11_putLow 0 4 s33.1 s33.2) (fun z39 s39 => fon (F_X11_putLow (54 + (4 * v3)) 4 s39.1 s39.2) (fun z50 s50 => fon (F_X11_putLow 40 4 s50.1 s50.2) (fun z57 s57 => if inb v1 4 then (fon (F_X11_putLow (wi (Int32.toNatClampNeg v1)) 4 s57.1 s57.2) (fun z68 s68 => if inb v1 4 then (fon (F_X11_putLow (hi (Int32.toNatClampNeg v1)) 4 s68.1 s68.2) (fun z79 s79 => fon (F_X11_putLow 1 2 s79.1 s79.2) (fun z85 s85 => if v2 = 7 then (F_X11_writeRows_102 dd wi hi v1 v2 v3 (24 : Int32) s85.1 s85.2 co) else (F_X11_writeRows_102 dd wi hi v1 v2 v3 (8 : Int32) s85.1 s85.2 co)) (fun _ _ => fno)) (fun _ _ => fno)) else fno) (fun _ _ => fno)) else fno) (fun _ _ => fno)) (fun _ _ => fno)) (fun _ _ => fno)) (fun _ _ => fno)) (fun _ _ => fno)) (fun _ _ => fno)
set_option maxHeartbeats 1000000 in
set_option maxRecDepth 100000 in
theorem b_X11_writeRows_18 (mo : MO) (mr : MR) (ms : Nat) (mt : A) (dd : A) (wi : A) (hi : A) (gt : A) (sp : A) (ta : A) (li : A) (sr : A) (hb : aH) (n : Nat)   : Q_X11_writeRows_18 mo mr ms mt dd wi hi gt sp ta li sr hb n (F_X11_writeRows_18 dd wi hi) := by
  intro v1 v2 v3 mw mu co res hE hF
  unfold F_X11_writeRows_18 at hE
  refine aw_aload_n dX11_writeRows_18 rfl ?_
  refine aw_bipush (v := 66) dX11_writeRows_19 (by decide) ?_
  refine aw_callV dX11_writeRows_21 at_mod cvX11_280 rfl (kF_X11_put_ mo mw mr ms mt mu dd wi hi gt sp ta li sr co hb _  66 (fon_ne hE hF)) rfl (Nat.le_of_ble_eq_true rfl) (by decide) (by decide) (by decide) (by decide) (fun _ _ _ hf => False.elim hf) (fun r21 h21 n21 hp21 => ?_)
  obtain ⟨z21, s21, e21, rfl, rfl, rfl⟩ := hp21
  replace hE := fon_ok e21 hE
  refine aw_aload_n dX11_writeRows_24 rfl ?_
  refine aw_bipush (v := 77) dX11_writeRows_25 (by decide) ?_
  refine aw_callV dX11_writeRows_27 at_mod cvX11_280 rfl (kF_X11_put_ mo s21.1 mr ms mt s21.2 dd wi hi gt sp ta li sr co hb _  77 (fon_ne hE hF)) rfl (Nat.le_of_ble_eq_true rfl) (by decide) (by decide) (by decide) (by decide) (fun _ _ _ hf => False.elim hf) (fun r27 h27 n27 hp27 => ?_)
  obtain ⟨z27, s27, e27, rfl, rfl, rfl⟩ := hp27
  replace hE := fon_ok e27 hE
  refine aw_aload_n dX11_writeRows_30 rfl ?_
  refine aw_iconst (v := 0) dX11_writeRows_31 (by decide) ?_
  refine aw_iconst (v := 4) dX11_writeRows_32 (by decide) ?_
  refine aw_callV dX11_writeRows_33 at_mod cvX11_296 rfl (kF_X11_putLow mo s27.1 mr ms mt s27.2 dd wi hi gt sp ta li sr co hb _  0 4 (fon_ne hE hF)) rfl (Nat.le_of_ble_eq_true rfl) (by decide) (by decide) (by decide) (by decide) (fun _ _ _ hf => False.elim hf) (fun r33 h33 n33 hp33 => ?_)
  obtain ⟨z33, s33, e33, rfl, rfl, rfl⟩ := hp33
  replace hE := fon_ok e33 hE
  refine aw_aload_n dX11_writeRows_36 rfl ?_
  refine aw_iconst (v := 0) dX11_writeRows_37 (by decide) ?_
  refine aw_iconst (v := 4) dX11_writeRows_38 (by decide) ?_
  refine aw_callV dX11_writeRows_39 at_mod cvX11_296 rfl (kF_X11_putLow mo s33.1 mr ms mt s33.2 dd wi hi gt sp ta li sr co hb _  0 4 (fon_ne hE hF)) rfl (Nat.le_of_ble_eq_true rfl) (by decide) (by decide) (by decide) (by decide) (fun _ _ _ hf => False.elim hf) (fun r39 h39 n39 hp39 => ?_)
  obtain ⟨z39, s39, e39, rfl, rfl, rfl⟩ := hp39
  replace hE := fon_ok e39 hE
  refine aw_aload_n dX11_writeRows_42 rfl ?_
  refine aw_bipush (v := 54) dX11_writeRows_43 (by decide) ?_
  refine aw_iconst (v := 4) dX11_writeRows_45 (by decide) ?_
  refine aw_iload_n dX11_writeRows_46 rfl ?_
  refine aw_imul dX11_writeRows_47 ?_
  refine aw_iadd dX11_writeRows_48 ?_
  refine aw_iconst (v := 4) dX11_writeRows_49 (by decide) ?_
  refine aw_callV dX11_writeRows_50 at_mod cvX11_296 rfl (kF_X11_putLow mo s39.1 mr ms mt s39.2 dd wi hi gt sp ta li sr co hb _  (54 + (4 * v3)) 4 (fon_ne hE hF)) rfl (Nat.le_of_ble_eq_true rfl) (by decide) (by decide) (by decide) (by decide) (fun _ _ _ hf => False.elim hf) (fun r50 h50 n50 hp50 => ?_)
  obtain ⟨z50, s50, e50, rfl, rfl, rfl⟩ := hp50
  replace hE := fon_ok e50 hE
  refine aw_aload_n dX11_writeRows_53 rfl ?_
  refine aw_bipush (v := 40) dX11_writeRows_54 (by decide) ?_
  refine aw_iconst (v := 4) dX11_writeRows_56 (by decide) ?_
  refine aw_callV dX11_writeRows_57 at_mod cvX11_296 rfl (kF_X11_putLow mo s50.1 mr ms mt s50.2 dd wi hi gt sp ta li sr co hb _  40 4 (fon_ne hE hF)) rfl (Nat.le_of_ble_eq_true rfl) (by decide) (by decide) (by decide) (by decide) (fun _ _ _ hf => False.elim hf) (fun r57 h57 n57 hp57 => ?_)
  obtain ⟨z57, s57, e57, rfl, rfl, rfl⟩ := hp57
  replace hE := fon_ok e57 hE
  refine aw_aload_n dX11_writeRows_60 rfl ?_
  refine aw_aload_n dX11_writeRows_61 rfl ?_
  refine aw_getf (v := .ref 35) dX11_writeRows_62 flX11_21_10 at_mod rfl ?_
  refine aw_iload_n dX11_writeRows_65 rfl ?_
  obtain ⟨g66, hE⟩ := fgd hE hF
  refine aw_iald (f := wi) dX11_writeRows_66 at_mwide (vp_in_iff.mpr g66) ?_
  refine aw_iconst (v := 4) dX11_writeRows_67 (by decide) ?_
  refine aw_callV dX11_writeRows_68 at_mod cvX11_296 rfl (kF_X11_putLow mo s57.1 mr ms mt s57.2 dd wi hi gt sp ta li sr co hb _  (wi (Int32.toNatClampNeg v1)) 4 (fon_ne hE hF)) rfl (Nat.le_of_ble_eq_true rfl) (by decide) (by decide) (by decide) (by decide) (fun _ _ _ hf => False.elim hf) (fun r68 h68 n68 hp68 => ?_)
  obtain ⟨z68, s68, e68, rfl, rfl, rfl⟩ := hp68
  replace hE := fon_ok e68 hE
  refine aw_aload_n dX11_writeRows_71 rfl ?_
  refine aw_aload_n dX11_writeRows_72 rfl ?_
  refine aw_getf (v := .ref 36) dX11_writeRows_73 flX11_24_10 at_mod rfl ?_
  refine aw_iload_n dX11_writeRows_76 rfl ?_
  obtain ⟨g77, hE⟩ := fgd hE hF
  refine aw_iald (f := hi) dX11_writeRows_77 at_mhigh (vp_in_iff.mpr g77) ?_
  refine aw_iconst (v := 4) dX11_writeRows_78 (by decide) ?_
  refine aw_callV dX11_writeRows_79 at_mod cvX11_296 rfl (kF_X11_putLow mo s68.1 mr ms mt s68.2 dd wi hi gt sp ta li sr co hb _  (hi (Int32.toNatClampNeg v1)) 4 (fon_ne hE hF)) rfl (Nat.le_of_ble_eq_true rfl) (by decide) (by decide) (by decide) (by decide) (fun _ _ _ hf => False.elim hf) (fun r79 h79 n79 hp79 => ?_)
  obtain ⟨z79, s79, e79, rfl, rfl, rfl⟩ := hp79
  replace hE := fon_ok e79 hE
  refine aw_aload_n dX11_writeRows_82 rfl ?_
  refine aw_iconst (v := 1) dX11_writeRows_83 (by decide) ?_
  refine aw_iconst (v := 2) dX11_writeRows_84 (by decide) ?_
  refine aw_callV dX11_writeRows_85 at_mod cvX11_296 rfl (kF_X11_putLow mo s79.1 mr ms mt s79.2 dd wi hi gt sp ta li sr co hb _  1 2 (fon_ne hE hF)) rfl (Nat.le_of_ble_eq_true rfl) (by decide) (by decide) (by decide) (by decide) (fun _ _ _ hf => False.elim hf) (fun r85 h85 n85 hp85 => ?_)
  obtain ⟨z85, s85, e85, rfl, rfl, rfl⟩ := hp85
  replace hE := fon_ok e85 hE
  refine aw_aload_n dX11_writeRows_88 rfl ?_
  refine aw_iload_n dX11_writeRows_89 rfl ?_
  refine aw_bipush (v := 7) dX11_writeRows_90 (by decide) ?_
  refine aw_icmp_ne (tgt := 100) dX11_writeRows_92 (by decide) (fun c92 => ?_) (fun c92 => ?_)
  · replace hE := fif hE c92
    refine aw_bipush (v := 8) dX11_writeRows_100 (by decide) ?_
    exact aw_lv _ (List.forall_mem_cons.mpr ⟨rfl, (List.forall_mem_cons.mpr ⟨rfl, (List.forall_mem_cons.mpr ⟨rfl, (List.forall_mem_cons.mpr ⟨rfl, fun _ h => absurd h List.not_mem_nil⟩)⟩)⟩)⟩) (b_X11_writeRows_102 mo mr ms mt dd wi hi gt sp ta li sr hb n   v1 v2 v3 (8 : Int32) s85.1 s85.2 co _ hE hF)
  · replace hE := fit hE c92
    refine aw_bipush (v := 24) dX11_writeRows_95 (by decide) ?_
    refine aw_goto (tgt := 102) dX11_writeRows_97 (by decide) ?_
    exact aw_lv _ (List.forall_mem_cons.mpr ⟨rfl, (List.forall_mem_cons.mpr ⟨rfl, (List.forall_mem_cons.mpr ⟨rfl, (List.forall_mem_cons.mpr ⟨rfl, fun _ h => absurd h List.not_mem_nil⟩)⟩)⟩)⟩) (b_X11_writeRows_102 mo mr ms mt dd wi hi gt sp ta li sr hb n   v1 v2 v3 (24 : Int32) s85.1 s85.2 co _ hE hF)
def F_X11_writeRows (a1 : Int32) (a2 : Int32) (mw : MW) (mu : A) (dd : A) (wi : A) (hi : A) (co : A) : Out (MW × A × A) Unit := if a2 = 7 then (F_X11_writeRows_18 dd wi hi a1 a2 (0 : Int32) mw mu co) else (fon (F_X11_listColours a1 mw dd wi hi co) (fun z10 s10 => F_X11_writeRows_18 dd wi hi a1 a2 (mw_cm s10.1) s10.1 mu s10.2) (fun _ _ => fno))
set_option maxHeartbeats 1000000 in
set_option maxRecDepth 100000 in
theorem kF_X11_writeRows (mo : MO) (mw : MW) (mr : MR) (ms : Nat) (mt : A) (mu : A) (dd : A) (wi : A) (hi : A) (gt : A) (sp : A) (ta : A) (li : A) (sr : A) (co : A) (hb : aH) (n : Nat)  (a1 : Int32) (a2 : Int32) (hF : F_X11_writeRows a1 a2 mw mu dd wi hi co ≠ fno) : AM mX11_writeRows 3 [.ref 31, .int a1, .int a2] (HM mo mw mr ms mt mu dd wi hi gt sp ta li sr co hb) n 0 0 0 0 (P_X11_writeRows mo mr ms mt dd wi hi gt sp ta li sr hb n (F_X11_writeRows a1 a2 mw mu dd wi hi co)) (fun _ _ _ => False) := by
  generalize hE : F_X11_writeRows a1 a2 mw mu dd wi hi co = res at hF ⊢
  refine aw_of (by decide +kernel) rfl (Nat.le_of_ble_eq_true rfl) ?_
  unfold F_X11_writeRows at hE
  refine aw_iconst (v := 0) dX11_writeRows_0 (by decide) ?_
  refine aw_istore_n (lv2 := [(3, _), (0, _), (1, _), (2, _)]) dX11_writeRows_1 (by decide) rfl ?_
  refine aw_iload_n dX11_writeRows_2 rfl ?_
  refine aw_bipush (v := 7) dX11_writeRows_3 (by decide) ?_
  refine aw_icmp_eq (tgt := 18) dX11_writeRows_5 (by decide) (fun c5 => ?_) (fun c5 => ?_)
  · replace hE := fit hE c5
    exact aw_lv _ (List.forall_mem_cons.mpr ⟨rfl, (List.forall_mem_cons.mpr ⟨rfl, (List.forall_mem_cons.mpr ⟨rfl, (List.forall_mem_cons.mpr ⟨rfl, fun _ h => absurd h List.not_mem_nil⟩)⟩)⟩)⟩) (b_X11_writeRows_18 mo mr ms mt dd wi hi gt sp ta li sr hb n   a1 a2 (0 : Int32) mw mu co _ hE hF)
  · replace hE := fif hE c5
    refine aw_aload_n dX11_writeRows_8 rfl ?_
    refine aw_iload_n dX11_writeRows_9 rfl ?_
    refine aw_callV dX11_writeRows_10 at_mod cvX11_293 rfl (kF_X11_listColours mo mw mr ms mt mu dd wi hi gt sp ta li sr co hb _  a1 (fon_ne hE hF)) rfl (Nat.le_of_ble_eq_true rfl) (by decide) (by decide) (by decide) (by decide) (fun _ _ _ hf => False.elim hf) (fun r10 h10 n10 hp10 => ?_)
    obtain ⟨z10, s10, e10, rfl, rfl, rfl⟩ := hp10
    replace hE := fon_ok e10 hE
    refine aw_aload_n dX11_writeRows_13 rfl ?_
    refine aw_getf (v := .int (mw_cm s10.1)) dX11_writeRows_14 flX11_262_10 at_mod rfl ?_
    refine aw_istore_n (lv2 := [(3, _), (0, _), (1, _), (2, _)]) dX11_writeRows_17 (by decide) rfl ?_
    exact aw_lv _ (List.forall_mem_cons.mpr ⟨rfl, (List.forall_mem_cons.mpr ⟨rfl, (List.forall_mem_cons.mpr ⟨rfl, (List.forall_mem_cons.mpr ⟨rfl, fun _ h => absurd h List.not_mem_nil⟩)⟩)⟩)⟩) (b_X11_writeRows_18 mo mr ms mt dd wi hi gt sp ta li sr hb n   a1 a2 (mw_cm s10.1) s10.1 mu s10.2 _ hE hF)
