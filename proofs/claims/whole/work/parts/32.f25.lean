def P_X11_readLine (mo : MO) (mw : MW) (ms : Nat) (mt : A) (mu : A) (dd : A) (wi : A) (hi : A) (sp : A) (ta : A) (sr : A) (co : A) (hb : aH) (n : Nat) (res : Out (MR × A × A) Int32) : Option Value → aH → Nat → Prop := fun r1 h2 n2 => ∃ (a : Int32) (s : (MR × A × A)), res = fok a s ∧ r1 = some (.int a) ∧ h2 = HM mo mw s.1 ms mt mu dd wi hi s.2.1 sp ta s.2.2 sr co hb ∧ n = n2
abbrev Q_X11_readLine_9 (mo : MO) (mw : MW) (ms : Nat) (mt : A) (mu : A) (dd : A) (wi : A) (hi : A) (sp : A) (ta : A) (sr : A) (co : A) (hb : aH) (n : Nat) (k : Int32 → Int32 → Int32 → Int32 → Int32 → Int32 → Int32 → MR → A → A → Out (MR × A × A) Int32) : Prop := ∀ (v1 : Int32) (v2 : Int32) (v3 : Int32) (v4 : Int32) (v5 : Int32) (v6 : Int32) (v7 : Int32) (mr : MR) (gt : A) (li : A) (res : Out (MR × A × A) Int32), k v1 v2 v3 v4 v5 v6 v7 mr gt li = res → res ≠ fno → AW (fun _ _ => True) mX11_readLine (rmD 3 0 0) 0 0 (P_X11_readLine mo mw ms mt mu dd wi hi sp ta sr co hb n res) (fun _ _ _ => False) 0 0 9 [(0, .ref 31), (1, .int v1), (2, .int v2), (3, .int v3), (4, .int v4), (5, .int v5), (6, .int v6), (7, .int v7)] [] (HM mo mw mr ms mt mu dd wi hi gt sp ta li sr co hb) n
abbrev Q_X11_readLine_54 (mo : MO) (mw : MW) (ms : Nat) (mt : A) (mu : A) (dd : A) (wi : A) (hi : A) (sp : A) (ta : A) (sr : A) (co : A) (hb : aH) (n : Nat) (k : Int32 → Int32 → Int32 → Int32 → Int32 → Int32 → Int32 → Int32 → Int32 → MR → A → A → Out (MR × A × A) Int32) : Prop := ∀ (v1 : Int32) (v2 : Int32) (v3 : Int32) (v4 : Int32) (v5 : Int32) (v6 : Int32) (v7 : Int32) (v8 : Int32) (t0 : Int32) (mr : MR) (gt : A) (li : A) (res : Out (MR × A × A) Int32), k v1 v2 v3 v4 v5 v6 v7 v8 t0 mr gt li = res → res ≠ fno → AW (fun _ _ => True) mX11_readLine (rmD 3 0 0) 0 0 (P_X11_readLine mo mw ms mt mu dd wi hi sp ta sr co hb n res) (fun _ _ _ => False) 0 0 54 [(0, .ref 31), (1, .int v1), (2, .int v2), (3, .int v3), (4, .int v4), (5, .int v5), (6, .int v6), (7, .int v7), (8, .int v8)] [.int t0] (HM mo mw mr ms mt mu dd wi hi gt sp ta li sr co hb) n
abbrev Q_X11_readLine_71 (mo : MO) (mw : MW) (ms : Nat) (mt : A) (mu : A) (dd : A) (wi : A) (hi : A) (sp : A) (ta : A) (sr : A) (co : A) (hb : aH) (n : Nat) (k : MR → A → A → Out (MR × A × A) Int32) : Prop := ∀ (mr : MR) (gt : A) (li : A) (res : Out (MR × A × A) Int32), k mr gt li = res → res ≠ fno → AW (fun _ _ => True) mX11_readLine (rmD 3 0 0) 0 0 (P_X11_readLine mo mw ms mt mu dd wi hi sp ta sr co hb n res) (fun _ _ _ => False) 0 0 71 [(0, .ref 31)] [] (HM mo mw mr ms mt mu dd wi hi gt sp ta li sr co hb) n
abbrev Q_X11_readLine_129 (mo : MO) (mw : MW) (ms : Nat) (mt : A) (mu : A) (dd : A) (wi : A) (hi : A) (sp : A) (ta : A) (sr : A) (co : A) (hb : aH) (n : Nat) (k : Int32 → Int32 → Int32 → Int32 → Int32 → Int32 → Int32 → Int32 → Int32 → MR → A → A → Out (MR × A × A) Int32) : Prop := ∀ (v1 : Int32) (v2 : Int32) (v3 : Int32) (v4 : Int32) (v5 : Int32) (v6 : Int32) (v7 : Int32) (v8 : Int32) (v9 : Int32) (mr : MR) (gt : A) (li : A) (res : Out (MR × A × A) Int32), k v1 v2 v3 v4 v5 v6 v7 v8 v9 mr gt li = res → res ≠ fno → AW (fun _ _ => True) mX11_readLine (rmD 3 0 0) 0 0 (P_X11_readLine mo mw ms mt mu dd wi hi sp ta sr co hb n res) (fun _ _ _ => False) 0 0 129 [(0, .ref 31), (1, .int v1), (2, .int v2), (3, .int v3), (4, .int v4), (5, .int v5), (6, .int v6), (7, .int v7), (8, .int v8), (9, .int v9)] [] (HM mo mw mr ms mt mu dd wi hi gt sp ta li sr co hb) n
abbrev Q_X11_readLine_132 (mo : MO) (mw : MW) (ms : Nat) (mt : A) (mu : A) (dd : A) (wi : A) (hi : A) (sp : A) (ta : A) (sr : A) (co : A) (hb : aH) (n : Nat) (k : Int32 → Int32 → Int32 → Int32 → Int32 → Int32 → Int32 → Int32 → Int32 → Int32 → MR → A → A → Out (MR × A × A) Int32) : Prop := ∀ (v1 : Int32) (v2 : Int32) (v3 : Int32) (v4 : Int32) (v5 : Int32) (v6 : Int32) (v7 : Int32) (v8 : Int32) (v9 : Int32) (v10 : Int32) (mr : MR) (gt : A) (li : A) (res : Out (MR × A × A) Int32), k v1 v2 v3 v4 v5 v6 v7 v8 v9 v10 mr gt li = res → res ≠ fno → AW (fun _ _ => True) mX11_readLine (rmD 3 0 0) 0 0 (P_X11_readLine mo mw ms mt mu dd wi hi sp ta sr co hb n res) (fun _ _ _ => False) 0 0 132 [(0, .ref 31), (1, .int v1), (2, .int v2), (3, .int v3), (4, .int v4), (5, .int v5), (6, .int v6), (7, .int v7), (8, .int v8), (9, .int v9), (10, .int v10)] [] (HM mo mw mr ms mt mu dd wi hi gt sp ta li sr co hb) n
abbrev Q_X11_readLine_172 (mo : MO) (mw : MW) (ms : Nat) (mt : A) (mu : A) (dd : A) (wi : A) (hi : A) (sp : A) (ta : A) (sr : A) (co : A) (hb : aH) (n : Nat) (k : Int32 → Int32 → Int32 → Int32 → Int32 → Int32 → Int32 → Int32 → Int32 → Int32 → MR → A → A → Out (MR × A × A) Int32) : Prop := ∀ (v1 : Int32) (v2 : Int32) (v3 : Int32) (v4 : Int32) (v5 : Int32) (v6 : Int32) (v7 : Int32) (v8 : Int32) (v9 : Int32) (v10 : Int32) (mr : MR) (gt : A) (li : A) (res : Out (MR × A × A) Int32), k v1 v2 v3 v4 v5 v6 v7 v8 v9 v10 mr gt li = res → res ≠ fno → AW (fun _ _ => True) mX11_readLine (rmD 3 0 0) 0 0 (P_X11_readLine mo mw ms mt mu dd wi hi sp ta sr co hb n res) (fun _ _ _ => False) 0 0 172 [(0, .ref 31), (1, .int v1), (2, .int v2), (3, .int v3), (4, .int v4), (5, .int v5), (6, .int v6), (7, .int v7), (8, .int v8), (9, .int v9), (10, .int v10)] [] (HM mo mw mr ms mt mu dd wi hi gt sp ta li sr co hb) n
abbrev Q_X11_readLine_187 (mo : MO) (mw : MW) (ms : Nat) (mt : A) (mu : A) (dd : A) (wi : A) (hi : A) (sp : A) (ta : A) (sr : A) (co : A) (hb : aH) (n : Nat) (k : Int32 → Int32 → Int32 → Int32 → MR → A → A → Out (MR × A × A) Int32) : Prop := ∀ (v1 : Int32) (v2 : Int32) (v3 : Int32) (v8 : Int32) (mr : MR) (gt : A) (li : A) (res : Out (MR × A × A) Int32), k v1 v2 v3 v8 mr gt li = res → res ≠ fno → AW (fun _ _ => True) mX11_readLine (rmD 3 0 0) 0 0 (P_X11_readLine mo mw ms mt mu dd wi hi sp ta sr co hb n res) (fun _ _ _ => False) 0 0 187 [(0, .ref 31), (1, .int v1), (2, .int v2), (3, .int v3), (8, .int v8)] [] (HM mo mw mr ms mt mu dd wi hi gt sp ta li sr co hb) n
abbrev Q_X11_readLine_285 (mo : MO) (mw : MW) (ms : Nat) (mt : A) (mu : A) (dd : A) (wi : A) (hi : A) (sp : A) (ta : A) (sr : A) (co : A) (hb : aH) (n : Nat) (k : Int32 → Int32 → Int32 → Int32 → Int32 → Int32 → MR → A → A → Out (MR × A × A) Int32) : Prop := ∀ (v1 : Int32) (v2 : Int32) (v3 : Int32) (v8 : Int32) (t0 : Int32) (t1 : Int32) (mr : MR) (gt : A) (li : A) (res : Out (MR × A × A) Int32), k v1 v2 v3 v8 t0 t1 mr gt li = res → res ≠ fno → AW (fun _ _ => True) mX11_readLine (rmD 3 0 0) 0 0 (P_X11_readLine mo mw ms mt mu dd wi hi sp ta sr co hb n res) (fun _ _ _ => False) 0 0 285 [(0, .ref 31), (1, .int v1), (2, .int v2), (3, .int v3), (8, .int v8)] [.int t0, .int t1, .ref 37] (HM mo mw mr ms mt mu dd wi hi gt sp ta li sr co hb) n
abbrev Q_X11_readLine_301 (mo : MO) (mw : MW) (ms : Nat) (mt : A) (mu : A) (dd : A) (wi : A) (hi : A) (sp : A) (ta : A) (sr : A) (co : A) (hb : aH) (n : Nat) (k : Int32 → Int32 → Int32 → Int32 → Int32 → Int32 → Int32 → Int32 → MR → A → A → Out (MR × A × A) Int32) : Prop := ∀ (v1 : Int32) (v2 : Int32) (v3 : Int32) (v8 : Int32) (v9 : Int32) (v10 : Int32) (v11 : Int32) (v12 : Int32) (mr : MR) (gt : A) (li : A) (res : Out (MR × A × A) Int32), k v1 v2 v3 v8 v9 v10 v11 v12 mr gt li = res → res ≠ fno → AW (fun _ _ => True) mX11_readLine (rmD 3 0 0) 0 0 (P_X11_readLine mo mw ms mt mu dd wi hi sp ta sr co hb n res) (fun _ _ _ => False) 0 0 301 [(0, .ref 31), (1, .int v1), (2, .int v2), (3, .int v3), (8, .int v8), (9, .int v9), (10, .int v10), (11, .int v11), (12, .int v12)] [] (HM mo mw mr ms mt mu dd wi hi gt sp ta li sr co hb) n
abbrev Q_X11_readLine_387 (mo : MO) (mw : MW) (ms : Nat) (mt : A) (mu : A) (dd : A) (wi : A) (hi : A) (sp : A) (ta : A) (sr : A) (co : A) (hb : aH) (n : Nat) (k : Int32 → Int32 → Int32 → Int32 → Int32 → Int32 → MR → A → A → Out (MR × A × A) Int32) : Prop := ∀ (v1 : Int32) (v2 : Int32) (v3 : Int32) (v8 : Int32) (t0 : Int32) (t1 : Int32) (mr : MR) (gt : A) (li : A) (res : Out (MR × A × A) Int32), k v1 v2 v3 v8 t0 t1 mr gt li = res → res ≠ fno → AW (fun _ _ => True) mX11_readLine (rmD 3 0 0) 0 0 (P_X11_readLine mo mw ms mt mu dd wi hi sp ta sr co hb n res) (fun _ _ _ => False) 0 0 387 [(0, .ref 31), (1, .int v1), (2, .int v2), (3, .int v3), (8, .int v8)] [.int t0, .int t1, .ref 37] (HM mo mw mr ms mt mu dd wi hi gt sp ta li sr co hb) n
abbrev Q_X11_readLine_393 (mo : MO) (mw : MW) (ms : Nat) (mt : A) (mu : A) (dd : A) (wi : A) (hi : A) (sp : A) (ta : A) (sr : A) (co : A) (hb : aH) (n : Nat) (k : Int32 → Int32 → Int32 → Int32 → Int32 → Int32 → MR → A → A → Out (MR × A × A) Int32) : Prop := ∀ (v1 : Int32) (v2 : Int32) (v3 : Int32) (v8 : Int32) (v11 : Int32) (t0 : Int32) (mr : MR) (gt : A) (li : A) (res : Out (MR × A × A) Int32), k v1 v2 v3 v8 v11 t0 mr gt li = res → res ≠ fno → AW (fun _ _ => True) mX11_readLine (rmD 3 0 0) 0 0 (P_X11_readLine mo mw ms mt mu dd wi hi sp ta sr co hb n res) (fun _ _ _ => False) 0 0 393 [(0, .ref 31), (1, .int v1), (2, .int v2), (3, .int v3), (8, .int v8), (11, .int v11)] [.int t0, .ref 37] (HM mo mw mr ms mt mu dd wi hi gt sp ta li sr co hb) n
abbrev Q_X11_readLine_400 (mo : MO) (mw : MW) (ms : Nat) (mt : A) (mu : A) (dd : A) (wi : A) (hi : A) (sp : A) (ta : A) (sr : A) (co : A) (hb : aH) (n : Nat) (k : Int32 → Int32 → Int32 → Int32 → Int32 → Int32 → MR → A → A → Out (MR × A × A) Int32) : Prop := ∀ (v1 : Int32) (v2 : Int32) (v3 : Int32) (v8 : Int32) (t0 : Int32) (t1 : Int32) (mr : MR) (gt : A) (li : A) (res : Out (MR × A × A) Int32), k v1 v2 v3 v8 t0 t1 mr gt li = res → res ≠ fno → AW (fun _ _ => True) mX11_readLine (rmD 3 0 0) 0 0 (P_X11_readLine mo mw ms mt mu dd wi hi sp ta sr co hb n res) (fun _ _ _ => False) 0 0 400 [(0, .ref 31), (1, .int v1), (2, .int v2), (3, .int v3), (8, .int v8)] [.int t0, .int t1, .ref 37] (HM mo mw mr ms mt mu dd wi hi gt sp ta li sr co hb) n
abbrev Q_X11_readLine_401 (mo : MO) (mw : MW) (ms : Nat) (mt : A) (mu : A) (dd : A) (wi : A) (hi : A) (sp : A) (ta : A) (sr : A) (co : A) (hb : aH) (n : Nat) (k : Int32 → Int32 → Int32 → Int32 → MR → A → A → Out (MR × A × A) Int32) : Prop := ∀ (v1 : Int32) (v2 : Int32) (v3 : Int32) (v8 : Int32) (mr : MR) (gt : A) (li : A) (res : Out (MR × A × A) Int32), k v1 v2 v3 v8 mr gt li = res → res ≠ fno → AW (fun _ _ => True) mX11_readLine (rmD 3 0 0) 0 0 (P_X11_readLine mo mw ms mt mu dd wi hi sp ta sr co hb n res) (fun _ _ _ => False) 0 0 401 [(0, .ref 31), (1, .int v1), (2, .int v2), (3, .int v3), (8, .int v8)] [] (HM mo mw mr ms mt mu dd wi hi gt sp ta li sr co hb) n
def F_X11_readLine_401 (sb : A) (ta : A) (k187 : Int32 → Int32 → Int32 → Int32 → MR → A → A → Out (MR × A × A) Int32) (v1 : Int32) (v2 : Int32) (v3 : Int32) (v8 : Int32) (mr : MR) (gt : A) (li : A) : Out (MR × A × A) Int32 := k187 v1 v2 v3 (v8 + 1) mr gt li
set_option maxHeartbeats 1000000 in
set_option maxRecDepth 100000 in
theorem b_X11_readLine_401 (mo : MO) (mw : MW) (ms : Nat) (mt : A) (mu : A) (dd : A) (wi : A) (hi : A) (sp : A) (ta : A) (sr : A) (co : A) (hb : aH) (n : Nat) (hms : isMS ms) (k187 : Int32 → Int32 → Int32 → Int32 → MR → A → A → Out (MR × A × A) Int32) (hk187 : Q_X11_readLine_187 mo mw ms mt mu dd wi hi sp ta sr co hb n k187) : Q_X11_readLine_401 mo mw ms mt mu dd wi hi sp ta sr co hb n (F_X11_readLine_401 (srcB ms mt mu) ta k187) := by
  intro v1 v2 v3 v8 mr gt li res hE hF
  unfold F_X11_readLine_401 at hE
  refine aw_iinc (v := (v8 + 1)) (lv2 := [(8, _), (0, _), (1, _), (2, _), (3, _)]) dX11_readLine_401 rfl (incE (by decide)) (by decide) rfl ?_
  refine aw_goto (tgt := 187) dX11_readLine_404 (by decide) ?_
  exact aw_lv _ (List.forall_mem_cons.mpr ⟨rfl, (List.forall_mem_cons.mpr ⟨rfl, (List.forall_mem_cons.mpr ⟨rfl, (List.forall_mem_cons.mpr ⟨rfl, (List.forall_mem_cons.mpr ⟨rfl, fun _ h => absurd h List.not_mem_nil⟩)⟩)⟩)⟩)⟩) (hk187 v1 v2 v3 (v8 + 1) mr gt li _ hE hF)
def F_X11_readLine_400 (sb : A) (ta : A) (k187 : Int32 → Int32 → Int32 → Int32 → MR → A → A → Out (MR × A × A) Int32) (v1 : Int32) (v2 : Int32) (v3 : Int32) (v8 : Int32) (t0 : Int32) (t1 : Int32) (mr : MR) (gt : A) (li : A) : Out (MR × A × A) Int32 := if inb t1 4096 then (F_X11_readLine_401 sb ta k187 v1 v2 v3 v8 mr (upd gt (Int32.toNatClampNeg t1) t0) li) else fno
set_option maxHeartbeats 1000000 in
set_option maxRecDepth 100000 in
theorem b_X11_readLine_400 (mo : MO) (mw : MW) (ms : Nat) (mt : A) (mu : A) (dd : A) (wi : A) (hi : A) (sp : A) (ta : A) (sr : A) (co : A) (hb : aH) (n : Nat) (hms : isMS ms) (k187 : Int32 → Int32 → Int32 → Int32 → MR → A → A → Out (MR × A × A) Int32) (hk187 : Q_X11_readLine_187 mo mw ms mt mu dd wi hi sp ta sr co hb n k187) : Q_X11_readLine_400 mo mw ms mt mu dd wi hi sp ta sr co hb n (F_X11_readLine_400 (srcB ms mt mu) ta k187) := by
  intro v1 v2 v3 v8 t0 t1 mr gt li res hE hF
  unfold F_X11_readLine_400 at hE
  obtain ⟨g400, hE⟩ := fgd hE hF
  refine aw_iast (f := gt) dX11_readLine_400 at_mgot (vp_in_iff.mpr g400) ?_
  refine aw_eqh (h2 := HM mo mw mr ms mt mu dd wi hi (upd gt (Int32.toNatClampNeg t1) t0) sp ta li sr co hb) up_mgot ?_
  exact aw_lv _ (List.forall_mem_cons.mpr ⟨rfl, (List.forall_mem_cons.mpr ⟨rfl, (List.forall_mem_cons.mpr ⟨rfl, (List.forall_mem_cons.mpr ⟨rfl, (List.forall_mem_cons.mpr ⟨rfl, fun _ h => absurd h List.not_mem_nil⟩)⟩)⟩)⟩)⟩) (b_X11_readLine_401 mo mw ms mt mu dd wi hi sp ta sr co hb n hms k187 hk187 v1 v2 v3 v8 mr (upd gt (Int32.toNatClampNeg t1) t0) li _ hE hF)
def F_X11_readLine_393 (sb : A) (ta : A) (k187 : Int32 → Int32 → Int32 → Int32 → MR → A → A → Out (MR × A × A) Int32) (v1 : Int32) (v2 : Int32) (v3 : Int32) (v8 : Int32) (v11 : Int32) (t0 : Int32) (mr : MR) (gt : A) (li : A) : Out (MR × A × A) Int32 := if inb v11 65536 then (F_X11_readLine_400 sb ta k187 v1 v2 v3 v8 (ta (Int32.toNatClampNeg v11)) t0 mr gt li) else fno
set_option maxHeartbeats 1000000 in
set_option maxRecDepth 100000 in
theorem b_X11_readLine_393 (mo : MO) (mw : MW) (ms : Nat) (mt : A) (mu : A) (dd : A) (wi : A) (hi : A) (sp : A) (ta : A) (sr : A) (co : A) (hb : aH) (n : Nat) (hms : isMS ms) (k187 : Int32 → Int32 → Int32 → Int32 → MR → A → A → Out (MR × A × A) Int32) (hk187 : Q_X11_readLine_187 mo mw ms mt mu dd wi hi sp ta sr co hb n k187) : Q_X11_readLine_393 mo mw ms mt mu dd wi hi sp ta sr co hb n (F_X11_readLine_393 (srcB ms mt mu) ta k187) := by
  intro v1 v2 v3 v8 v11 t0 mr gt li res hE hF
  unfold F_X11_readLine_393 at hE
  refine aw_aload_n dX11_readLine_393 rfl ?_
  refine aw_getf (v := .ref 39) dX11_readLine_394 flX11_49_10 at_mod rfl ?_
  refine aw_iload dX11_readLine_397 rfl ?_
  obtain ⟨g399, hE⟩ := fgd hE hF
  refine aw_iald (f := ta) dX11_readLine_399 at_mtable (vp_in_iff.mpr g399) ?_
  exact aw_lv _ (List.forall_mem_cons.mpr ⟨rfl, (List.forall_mem_cons.mpr ⟨rfl, (List.forall_mem_cons.mpr ⟨rfl, (List.forall_mem_cons.mpr ⟨rfl, (List.forall_mem_cons.mpr ⟨rfl, fun _ h => absurd h List.not_mem_nil⟩)⟩)⟩)⟩)⟩) (b_X11_readLine_400 mo mw ms mt mu dd wi hi sp ta sr co hb n hms k187 hk187 v1 v2 v3 v8 (ta (Int32.toNatClampNeg v11)) t0 mr gt li _ hE hF)
def F_X11_readLine_387 (sb : A) (ta : A) (k187 : Int32 → Int32 → Int32 → Int32 → MR → A → A → Out (MR × A × A) Int32) (v1 : Int32) (v2 : Int32) (v3 : Int32) (v8 : Int32) (t0 : Int32) (t1 : Int32) (mr : MR) (gt : A) (li : A) : Out (MR × A × A) Int32 := F_X11_readLine_400 sb ta k187 v1 v2 v3 v8 (F_X11_gray t0) t1 mr gt li
set_option maxHeartbeats 1000000 in
set_option maxRecDepth 100000 in
theorem b_X11_readLine_387 (mo : MO) (mw : MW) (ms : Nat) (mt : A) (mu : A) (dd : A) (wi : A) (hi : A) (sp : A) (ta : A) (sr : A) (co : A) (hb : aH) (n : Nat) (hms : isMS ms) (k187 : Int32 → Int32 → Int32 → Int32 → MR → A → A → Out (MR × A × A) Int32) (hk187 : Q_X11_readLine_187 mo mw ms mt mu dd wi hi sp ta sr co hb n k187) : Q_X11_readLine_387 mo mw ms mt mu dd wi hi sp ta sr co hb n (F_X11_readLine_387 (srcB ms mt mu) ta k187) := by
  intro v1 v2 v3 v8 t0 t1 mr gt li res hE hF
  unfold F_X11_readLine_387 at hE
  refine aw_callS dX11_readLine_387  csX11_176 rfl (kF_X11_gray _ _ t0) rfl (Nat.le_of_ble_eq_true rfl) (by decide) (by decide) (by decide) (by decide) (fun _ _ _ hf => False.elim hf) (fun r387 h387 n387 hp387 => ?_)
  obtain ⟨rfl, rfl, rfl⟩ := hp387
  refine aw_goto (tgt := 400) dX11_readLine_390 (by decide) ?_
  exact aw_lv _ (List.forall_mem_cons.mpr ⟨rfl, (List.forall_mem_cons.mpr ⟨rfl, (List.forall_mem_cons.mpr ⟨rfl, (List.forall_mem_cons.mpr ⟨rfl, (List.forall_mem_cons.mpr ⟨rfl, fun _ h => absurd h List.not_mem_nil⟩)⟩)⟩)⟩)⟩) (b_X11_readLine_400 mo mw ms mt mu dd wi hi sp ta sr co hb n hms k187 hk187 v1 v2 v3 v8 (F_X11_gray t0) t1 mr gt li _ hE hF)
def F_X11_readLine_301 (sb : A) (ta : A) (k187 : Int32 → Int32 → Int32 → Int32 → MR → A → A → Out (MR × A × A) Int32) (k301 : Int32 → Int32 → Int32 → Int32 → Int32 → Int32 → Int32 → Int32 → MR → A → A → Out (MR × A × A) Int32) (v1 : Int32) (v2 : Int32) (v3 : Int32) (v8 : Int32) (v9 : Int32) (v10 : Int32) (v11 : Int32) (v12 : Int32) (mr : MR) (gt : A) (li : A) : Out (MR × A × A) Int32 := if v3 ≤ v12 then (if v2 = 1 then (if v3 = 1 then (if v11 = 0 then (F_X11_readLine_387 sb ta k187 v1 v2 v3 v8 (0 : Int32) v9 mr gt li) else (F_X11_readLine_387 sb ta k187 v1 v2 v3 v8 (255 : Int32) v9 mr gt li)) else (F_X11_readLine_393 sb ta k187 v1 v2 v3 v8 v11 v9 mr gt li)) else (F_X11_readLine_393 sb ta k187 v1 v2 v3 v8 v11 v9 mr gt li)) else (if ¬ v10 = 0 then (if inb ((4096 * v12) + (v8 / v10)) 16384 then (if ¬ v10 = 0 then (k301 v1 v2 v3 v8 v9 v10 (v11 ||| ((((li (Int32.toNatClampNeg ((4096 * v12) + (v8 / v10)))) >>> (((8 - v2) - ((v8 - v8 / v10 * v10) * v2)) &&& 31)) &&& ((1 <<< (v2 &&& 31)) - 1)) <<< ((v2 * v12) &&& 31))) (v12 + 1) mr gt li) else fno) else fno) else fno)
set_option maxHeartbeats 1000000 in
set_option maxRecDepth 100000 in
theorem b_X11_readLine_301 (mo : MO) (mw : MW) (ms : Nat) (mt : A) (mu : A) (dd : A) (wi : A) (hi : A) (sp : A) (ta : A) (sr : A) (co : A) (hb : aH) (n : Nat) (hms : isMS ms) (k187 : Int32 → Int32 → Int32 → Int32 → MR → A → A → Out (MR × A × A) Int32) (hk187 : Q_X11_readLine_187 mo mw ms mt mu dd wi hi sp ta sr co hb n k187) (k301 : Int32 → Int32 → Int32 → Int32 → Int32 → Int32 → Int32 → Int32 → MR → A → A → Out (MR × A × A) Int32) (hk301 : Q_X11_readLine_301 mo mw ms mt mu dd wi hi sp ta sr co hb n k301) : Q_X11_readLine_301 mo mw ms mt mu dd wi hi sp ta sr co hb n (F_X11_readLine_301 (srcB ms mt mu) ta k187 k301) := by
  intro v1 v2 v3 v8 v9 v10 v11 v12 mr gt li res hE hF
  unfold F_X11_readLine_301 at hE
  refine aw_iload dX11_readLine_301 rfl ?_
  refine aw_iload_n dX11_readLine_303 rfl ?_
  refine aw_icmp_ge (tgt := 359) dX11_readLine_304 (by decide) (fun c304 => ?_) (fun c304 => ?_)
  · replace hE := fit hE c304
    refine aw_aload_n dX11_readLine_359 rfl ?_
    refine aw_getf (v := .ref 37) dX11_readLine_360 flX11_27_10 at_mod rfl ?_
    refine aw_iload dX11_readLine_363 rfl ?_
    refine aw_iload_n dX11_readLine_365 rfl ?_
    refine aw_iconst (v := 1) dX11_readLine_366 (by decide) ?_
    refine aw_icmp_ne (tgt := 393) dX11_readLine_367 (by decide) (fun c367 => ?_) (fun c367 => ?_)
    · replace hE := fif hE c367
      exact aw_lv _ (List.forall_mem_cons.mpr ⟨rfl, (List.forall_mem_cons.mpr ⟨rfl, (List.forall_mem_cons.mpr ⟨rfl, (List.forall_mem_cons.mpr ⟨rfl, (List.forall_mem_cons.mpr ⟨rfl, (List.forall_mem_cons.mpr ⟨rfl, fun _ h => absurd h List.not_mem_nil⟩)⟩)⟩)⟩)⟩)⟩) (b_X11_readLine_393 mo mw ms mt mu dd wi hi sp ta sr co hb n hms k187 hk187 v1 v2 v3 v8 v11 v9 mr gt li _ hE hF)
    · replace hE := fit hE c367
      refine aw_iload_n dX11_readLine_370 rfl ?_
      refine aw_iconst (v := 1) dX11_readLine_371 (by decide) ?_
      refine aw_icmp_ne (tgt := 393) dX11_readLine_372 (by decide) (fun c372 => ?_) (fun c372 => ?_)
      · replace hE := fif hE c372
        exact aw_lv _ (List.forall_mem_cons.mpr ⟨rfl, (List.forall_mem_cons.mpr ⟨rfl, (List.forall_mem_cons.mpr ⟨rfl, (List.forall_mem_cons.mpr ⟨rfl, (List.forall_mem_cons.mpr ⟨rfl, (List.forall_mem_cons.mpr ⟨rfl, fun _ h => absurd h List.not_mem_nil⟩)⟩)⟩)⟩)⟩)⟩) (b_X11_readLine_393 mo mw ms mt mu dd wi hi sp ta sr co hb n hms k187 hk187 v1 v2 v3 v8 v11 v9 mr gt li _ hE hF)
      · replace hE := fit hE c372
        refine aw_iload dX11_readLine_375 rfl ?_
        refine aw_if_ne (tgt := 384) dX11_readLine_377 (by decide) (fun c377 => ?_) (fun c377 => ?_)
        · replace hE := fif hE c377
          refine aw_sipush (v := 255) dX11_readLine_384 (by decide) ?_
          exact aw_lv _ (List.forall_mem_cons.mpr ⟨rfl, (List.forall_mem_cons.mpr ⟨rfl, (List.forall_mem_cons.mpr ⟨rfl, (List.forall_mem_cons.mpr ⟨rfl, (List.forall_mem_cons.mpr ⟨rfl, fun _ h => absurd h List.not_mem_nil⟩)⟩)⟩)⟩)⟩) (b_X11_readLine_387 mo mw ms mt mu dd wi hi sp ta sr co hb n hms k187 hk187 v1 v2 v3 v8 (255 : Int32) v9 mr gt li _ hE hF)
        · replace hE := fit hE c377
          refine aw_iconst (v := 0) dX11_readLine_380 (by decide) ?_
          refine aw_goto (tgt := 387) dX11_readLine_381 (by decide) ?_
          exact aw_lv _ (List.forall_mem_cons.mpr ⟨rfl, (List.forall_mem_cons.mpr ⟨rfl, (List.forall_mem_cons.mpr ⟨rfl, (List.forall_mem_cons.mpr ⟨rfl, (List.forall_mem_cons.mpr ⟨rfl, fun _ h => absurd h List.not_mem_nil⟩)⟩)⟩)⟩)⟩) (b_X11_readLine_387 mo mw ms mt mu dd wi hi sp ta sr co hb n hms k187 hk187 v1 v2 v3 v8 (0 : Int32) v9 mr gt li _ hE hF)
  · replace hE := fif hE c304
    refine aw_iload dX11_readLine_307 rfl ?_
    refine aw_aload_n dX11_readLine_309 rfl ?_
    refine aw_getf (v := .ref 40) dX11_readLine_310 flX11_52_10 at_mod rfl ?_
    refine aw_sipush (v := 4096) dX11_readLine_313 (by decide) ?_
    refine aw_iload dX11_readLine_316 rfl ?_
    refine aw_imul dX11_readLine_318 ?_
    refine aw_iload dX11_readLine_319 rfl ?_
    refine aw_iload dX11_readLine_321 rfl ?_
    obtain ⟨g323, hE⟩ := fgd hE hF
    refine aw_idiv dX11_readLine_323 g323 ?_
    refine aw_iadd dX11_readLine_324 ?_
    obtain ⟨g325, hE⟩ := fgd hE hF
    refine aw_bald (f := li) dX11_readLine_325 at_mlines (vp_in_iff.mpr g325) ?_
    refine aw_bipush (v := 8) dX11_readLine_326 (by decide) ?_
    refine aw_iload_n dX11_readLine_328 rfl ?_
    refine aw_isub dX11_readLine_329 ?_
    refine aw_iload dX11_readLine_330 rfl ?_
    refine aw_iload dX11_readLine_332 rfl ?_
    obtain ⟨g334, hE⟩ := fgd hE hF
    refine aw_irem dX11_readLine_334 g334 ?_
    refine aw_iload_n dX11_readLine_335 rfl ?_
    refine aw_imul dX11_readLine_336 ?_
    refine aw_isub dX11_readLine_337 ?_
    refine aw_ishr dX11_readLine_338 ?_
    refine aw_iconst (v := 1) dX11_readLine_339 (by decide) ?_
    refine aw_iload_n dX11_readLine_340 rfl ?_
    refine aw_ishl dX11_readLine_341 ?_
    refine aw_iconst (v := 1) dX11_readLine_342 (by decide) ?_
    refine aw_isub dX11_readLine_343 ?_
    refine aw_iand dX11_readLine_344 ?_
    refine aw_iload_n dX11_readLine_345 rfl ?_
    refine aw_iload dX11_readLine_346 rfl ?_
    refine aw_imul dX11_readLine_348 ?_
    refine aw_ishl dX11_readLine_349 ?_
    refine aw_ior dX11_readLine_350 ?_
    refine aw_istore (lv2 := [(11, _), (0, _), (1, _), (2, _), (3, _), (8, _), (9, _), (10, _), (12, _)]) dX11_readLine_351 (by decide) rfl ?_
    refine aw_iinc (v := (v12 + 1)) (lv2 := [(12, _), (11, _), (0, _), (1, _), (2, _), (3, _), (8, _), (9, _), (10, _)]) dX11_readLine_353 rfl (incE (by decide)) (by decide) rfl ?_
    refine aw_goto (tgt := 301) dX11_readLine_356 (by decide) ?_
    exact aw_lv _ (List.forall_mem_cons.mpr ⟨rfl, (List.forall_mem_cons.mpr ⟨rfl, (List.forall_mem_cons.mpr ⟨rfl, (List.forall_mem_cons.mpr ⟨rfl, (List.forall_mem_cons.mpr ⟨rfl, (List.forall_mem_cons.mpr ⟨rfl, (List.forall_mem_cons.mpr ⟨rfl, (List.forall_mem_cons.mpr ⟨rfl, (List.forall_mem_cons.mpr ⟨rfl, fun _ h => absurd h List.not_mem_nil⟩)⟩)⟩)⟩)⟩)⟩)⟩)⟩)⟩) (hk301 v1 v2 v3 v8 v9 v10 (v11 ||| ((((li (Int32.toNatClampNeg ((4096 * v12) + (v8 / v10)))) >>> (((8 - v2) - ((v8 - v8 / v10 * v10) * v2)) &&& 31)) &&& ((1 <<< (v2 &&& 31)) - 1)) <<< ((v2 * v12) &&& 31))) (v12 + 1) mr gt li _ hE hF)
def F_X11_readLine_285 (sb : A) (ta : A) (k187 : Int32 → Int32 → Int32 → Int32 → MR → A → A → Out (MR × A × A) Int32) (v1 : Int32) (v2 : Int32) (v3 : Int32) (v8 : Int32) (t0 : Int32) (t1 : Int32) (mr : MR) (gt : A) (li : A) : Out (MR × A × A) Int32 := if inb t1 4096 then (F_X11_readLine_401 sb ta k187 v1 v2 v3 v8 mr (upd gt (Int32.toNatClampNeg t1) t0) li) else fno
set_option maxHeartbeats 1000000 in
set_option maxRecDepth 100000 in
theorem b_X11_readLine_285 (mo : MO) (mw : MW) (ms : Nat) (mt : A) (mu : A) (dd : A) (wi : A) (hi : A) (sp : A) (ta : A) (sr : A) (co : A) (hb : aH) (n : Nat) (hms : isMS ms) (k187 : Int32 → Int32 → Int32 → Int32 → MR → A → A → Out (MR × A × A) Int32) (hk187 : Q_X11_readLine_187 mo mw ms mt mu dd wi hi sp ta sr co hb n k187) : Q_X11_readLine_285 mo mw ms mt mu dd wi hi sp ta sr co hb n (F_X11_readLine_285 (srcB ms mt mu) ta k187) := by
  intro v1 v2 v3 v8 t0 t1 mr gt li res hE hF
  unfold F_X11_readLine_285 at hE
  obtain ⟨g285, hE⟩ := fgd hE hF
  refine aw_iast (f := gt) dX11_readLine_285 at_mgot (vp_in_iff.mpr g285) ?_
  refine aw_eqh (h2 := HM mo mw mr ms mt mu dd wi hi (upd gt (Int32.toNatClampNeg t1) t0) sp ta li sr co hb) up_mgot ?_
  refine aw_goto (tgt := 401) dX11_readLine_286 (by decide) ?_
  exact aw_lv _ (List.forall_mem_cons.mpr ⟨rfl, (List.forall_mem_cons.mpr ⟨rfl, (List.forall_mem_cons.mpr ⟨rfl, (List.forall_mem_cons.mpr ⟨rfl, (List.forall_mem_cons.mpr ⟨rfl, fun _ h => absurd h List.not_mem_nil⟩)⟩)⟩)⟩)⟩) (b_X11_readLine_401 mo mw ms mt mu dd wi hi sp ta sr co hb n hms k187 hk187 v1 v2 v3 v8 mr (upd gt (Int32.toNatClampNeg t1) t0) li _ hE hF)
def F_X11_readLine_187 (sb : A) (ta : A) (k187 : Int32 → Int32 → Int32 → Int32 → MR → A → A → Out (MR × A × A) Int32) (v1 : Int32) (v2 : Int32) (v3 : Int32) (v8 : Int32) (mr : MR) (gt : A) (li : A) : Out (MR × A × A) Int32 := if (mr_gw mr) ≤ v8 then (fok (1 : Int32) (mr, gt, li)) else (if v2 = 8 then (if v3 = 1 then (if inb v8 16384 then (F_X11_readLine_285 sb ta k187 v1 v2 v3 v8 ((li (Int32.toNatClampNeg v8)) &&& 255) (((mr_gw mr) * v1) + v8) mr gt li) else fno) else (if inb v8 16384 then (if inb (4096 + v8) 16384 then (if inb (8192 + v8) 16384 then (F_X11_readLine_285 sb ta k187 v1 v2 v3 v8 (F_X11_mix ((li (Int32.toNatClampNeg v8)) &&& 255) ((li (Int32.toNatClampNeg (4096 + v8))) &&& 255) ((li (Int32.toNatClampNeg (8192 + v8))) &&& 255) 255) (((mr_gw mr) * v1) + v8) mr gt li) else fno) else fno) else fno)) else (if ¬ v2 = 0 then (lp (fun _ _ _ _ _ _ _ _ _ _ _ => fno) (F_X11_readLine_301 sb ta k187) FU v1 v2 v3 v8 (((mr_gw mr) * v1) + v8) (8 / v2) (0 : Int32) (0 : Int32) mr gt li) else fno))
set_option maxHeartbeats 1000000 in
set_option maxRecDepth 100000 in
theorem b_X11_readLine_187 (mo : MO) (mw : MW) (ms : Nat) (mt : A) (mu : A) (dd : A) (wi : A) (hi : A) (sp : A) (ta : A) (sr : A) (co : A) (hb : aH) (n : Nat) (hms : isMS ms) (k187 : Int32 → Int32 → Int32 → Int32 → MR → A → A → Out (MR × A × A) Int32) (hk187 : Q_X11_readLine_187 mo mw ms mt mu dd wi hi sp ta sr co hb n k187) : Q_X11_readLine_187 mo mw ms mt mu dd wi hi sp ta sr co hb n (F_X11_readLine_187 (srcB ms mt mu) ta k187) := by
  intro v1 v2 v3 v8 mr gt li res hE hF
  unfold F_X11_readLine_187 at hE
  refine aw_iload dX11_readLine_187 rfl ?_
  refine aw_aload_n dX11_readLine_189 rfl ?_
  refine aw_getf (v := .int (mr_gw mr)) dX11_readLine_190 flX11_109_10 at_mod rfl ?_
  refine aw_icmp_ge (tgt := 407) dX11_readLine_193 (by decide) (fun c193 => ?_) (fun c193 => ?_)
  · replace hE := fit hE c193
    refine aw_iconst (v := 1) dX11_readLine_407 (by decide) ?_
    exact aw_zret dX11_readLine_408 rfl (narB (by decide)) (Nat.zero_le _) (Nat.zero_le _) (Nat.zero_le _) (Nat.zero_le _) ⟨_, _, hE.symm, rfl, rfl, rfl⟩
  · replace hE := fif hE c193
    refine aw_aload_n dX11_readLine_196 rfl ?_
    refine aw_getf (v := .int (mr_gw mr)) dX11_readLine_197 flX11_109_10 at_mod rfl ?_
    refine aw_iload_n dX11_readLine_200 rfl ?_
    refine aw_imul dX11_readLine_201 ?_
    refine aw_iload dX11_readLine_202 rfl ?_
    refine aw_iadd dX11_readLine_204 ?_
    refine aw_istore (lv2 := [(9, _), (0, _), (1, _), (2, _), (3, _), (8, _)]) dX11_readLine_205 (by decide) rfl ?_
    refine aw_iload_n dX11_readLine_207 rfl ?_
    refine aw_bipush (v := 8) dX11_readLine_208 (by decide) ?_
    refine aw_icmp_ne (tgt := 289) dX11_readLine_210 (by decide) (fun c210 => ?_) (fun c210 => ?_)
    · replace hE := fif hE c210
      refine aw_bipush (v := 8) dX11_readLine_289 (by decide) ?_
      refine aw_iload_n dX11_readLine_291 rfl ?_
      obtain ⟨g292, hE⟩ := fgd hE hF
      refine aw_idiv dX11_readLine_292 g292 ?_
      refine aw_istore (lv2 := [(10, _), (9, _), (0, _), (1, _), (2, _), (3, _), (8, _)]) dX11_readLine_293 (by decide) rfl ?_
      refine aw_iconst (v := 0) dX11_readLine_295 (by decide) ?_
      refine aw_istore (lv2 := [(11, _), (10, _), (9, _), (0, _), (1, _), (2, _), (3, _), (8, _)]) dX11_readLine_296 (by decide) rfl ?_
      refine aw_iconst (v := 0) dX11_readLine_298 (by decide) ?_
      refine aw_istore (lv2 := [(12, _), (11, _), (10, _), (9, _), (0, _), (1, _), (2, _), (3, _), (8, _)]) dX11_readLine_299 (by decide) rfl ?_
      exact aw_lv _ (List.forall_mem_cons.mpr ⟨rfl, (List.forall_mem_cons.mpr ⟨rfl, (List.forall_mem_cons.mpr ⟨rfl, (List.forall_mem_cons.mpr ⟨rfl, (List.forall_mem_cons.mpr ⟨rfl, (List.forall_mem_cons.mpr ⟨rfl, (List.forall_mem_cons.mpr ⟨rfl, (List.forall_mem_cons.mpr ⟨rfl, (List.forall_mem_cons.mpr ⟨rfl, fun _ h => absurd h List.not_mem_nil⟩)⟩)⟩)⟩)⟩)⟩)⟩)⟩)⟩) (lp_ind (Q_X11_readLine_301 mo mw ms mt mu dd wi hi sp ta sr co hb n) (fun _ _ _ _ _ _ _ _ _ _ _ res hq hF => (hF hq.symm).elim) (fun k hk => b_X11_readLine_301 mo mw ms mt mu dd wi hi sp ta sr co hb n hms k187 hk187 k hk) FU v1 v2 v3 v8 (((mr_gw mr) * v1) + v8) (8 / v2) (0 : Int32) (0 : Int32) mr gt li _ hE hF)
    · replace hE := fit hE c210
      refine aw_aload_n dX11_readLine_213 rfl ?_
      refine aw_getf (v := .ref 37) dX11_readLine_214 flX11_27_10 at_mod rfl ?_
      refine aw_iload dX11_readLine_217 rfl ?_
      refine aw_iload_n dX11_readLine_219 rfl ?_
      refine aw_iconst (v := 1) dX11_readLine_220 (by decide) ?_
      refine aw_icmp_ne (tgt := 238) dX11_readLine_221 (by decide) (fun c221 => ?_) (fun c221 => ?_)
      · replace hE := fif hE c221
        refine aw_aload_n dX11_readLine_238 rfl ?_
        refine aw_getf (v := .ref 40) dX11_readLine_239 flX11_52_10 at_mod rfl ?_
        refine aw_iload dX11_readLine_242 rfl ?_
        obtain ⟨g244, hE⟩ := fgd hE hF
        refine aw_bald (f := li) dX11_readLine_244 at_mlines (vp_in_iff.mpr g244) ?_
        refine aw_sipush (v := 255) dX11_readLine_245 (by decide) ?_
        refine aw_iand dX11_readLine_248 ?_
        refine aw_aload_n dX11_readLine_249 rfl ?_
        refine aw_getf (v := .ref 40) dX11_readLine_250 flX11_52_10 at_mod rfl ?_
        refine aw_sipush (v := 4096) dX11_readLine_253 (by decide) ?_
        refine aw_iload dX11_readLine_256 rfl ?_
        refine aw_iadd dX11_readLine_258 ?_
        obtain ⟨g259, hE⟩ := fgd hE hF
        refine aw_bald (f := li) dX11_readLine_259 at_mlines (vp_in_iff.mpr g259) ?_
        refine aw_sipush (v := 255) dX11_readLine_260 (by decide) ?_
        refine aw_iand dX11_readLine_263 ?_
        refine aw_aload_n dX11_readLine_264 rfl ?_
        refine aw_getf (v := .ref 40) dX11_readLine_265 flX11_52_10 at_mod rfl ?_
        refine aw_sipush (v := 8192) dX11_readLine_268 (by decide) ?_
        refine aw_iload dX11_readLine_271 rfl ?_
        refine aw_iadd dX11_readLine_273 ?_
        obtain ⟨g274, hE⟩ := fgd hE hF
        refine aw_bald (f := li) dX11_readLine_274 at_mlines (vp_in_iff.mpr g274) ?_
        refine aw_sipush (v := 255) dX11_readLine_275 (by decide) ?_
        refine aw_iand dX11_readLine_278 ?_
        refine aw_sipush (v := 255) dX11_readLine_279 (by decide) ?_
        refine aw_callS dX11_readLine_282  csX11_115 rfl (kF_X11_mix _ _ ((li (Int32.toNatClampNeg v8)) &&& 255) ((li (Int32.toNatClampNeg (4096 + v8))) &&& 255) ((li (Int32.toNatClampNeg (8192 + v8))) &&& 255) 255) rfl (Nat.le_of_ble_eq_true rfl) (by decide) (by decide) (by decide) (by decide) (fun _ _ _ hf => False.elim hf) (fun r282 h282 n282 hp282 => ?_)
        obtain ⟨rfl, rfl, rfl⟩ := hp282
        exact aw_lv _ (List.forall_mem_cons.mpr ⟨rfl, (List.forall_mem_cons.mpr ⟨rfl, (List.forall_mem_cons.mpr ⟨rfl, (List.forall_mem_cons.mpr ⟨rfl, (List.forall_mem_cons.mpr ⟨rfl, fun _ h => absurd h List.not_mem_nil⟩)⟩)⟩)⟩)⟩) (b_X11_readLine_285 mo mw ms mt mu dd wi hi sp ta sr co hb n hms k187 hk187 v1 v2 v3 v8 (F_X11_mix ((li (Int32.toNatClampNeg v8)) &&& 255) ((li (Int32.toNatClampNeg (4096 + v8))) &&& 255) ((li (Int32.toNatClampNeg (8192 + v8))) &&& 255) 255) (((mr_gw mr) * v1) + v8) mr gt li _ hE hF)
      · replace hE := fit hE c221
        refine aw_aload_n dX11_readLine_224 rfl ?_
        refine aw_getf (v := .ref 40) dX11_readLine_225 flX11_52_10 at_mod rfl ?_
        refine aw_iload dX11_readLine_228 rfl ?_
        obtain ⟨g230, hE⟩ := fgd hE hF
        refine aw_bald (f := li) dX11_readLine_230 at_mlines (vp_in_iff.mpr g230) ?_
        refine aw_sipush (v := 255) dX11_readLine_231 (by decide) ?_
        refine aw_iand dX11_readLine_234 ?_
        refine aw_goto (tgt := 285) dX11_readLine_235 (by decide) ?_
        exact aw_lv _ (List.forall_mem_cons.mpr ⟨rfl, (List.forall_mem_cons.mpr ⟨rfl, (List.forall_mem_cons.mpr ⟨rfl, (List.forall_mem_cons.mpr ⟨rfl, (List.forall_mem_cons.mpr ⟨rfl, fun _ h => absurd h List.not_mem_nil⟩)⟩)⟩)⟩)⟩) (b_X11_readLine_285 mo mw ms mt mu dd wi hi sp ta sr co hb n hms k187 hk187 v1 v2 v3 v8 ((li (Int32.toNatClampNeg v8)) &&& 255) (((mr_gw mr) * v1) + v8) mr gt li _ hE hF)
def F_X11_readLine_172 (sb : A) (ta : A) (k9 : Int32 → Int32 → Int32 → Int32 → Int32 → Int32 → Int32 → MR → A → A → Out (MR × A × A) Int32) (k132 : Int32 → Int32 → Int32 → Int32 → Int32 → Int32 → Int32 → Int32 → Int32 → Int32 → MR → A → A → Out (MR × A × A) Int32) (v1 : Int32) (v2 : Int32) (v3 : Int32) (v4 : Int32) (v5 : Int32) (v6 : Int32) (v7 : Int32) (v8 : Int32) (v9 : Int32) (v10 : Int32) (mr : MR) (gt : A) (li : A) : Out (MR × A × A) Int32 := k132 v1 v2 v3 v4 v5 v6 (v7 + 1) v8 v9 (v10 + 1) mr gt li
set_option maxHeartbeats 1000000 in
set_option maxRecDepth 100000 in
theorem b_X11_readLine_172 (mo : MO) (mw : MW) (ms : Nat) (mt : A) (mu : A) (dd : A) (wi : A) (hi : A) (sp : A) (ta : A) (sr : A) (co : A) (hb : aH) (n : Nat) (hms : isMS ms) (k9 : Int32 → Int32 → Int32 → Int32 → Int32 → Int32 → Int32 → MR → A → A → Out (MR × A × A) Int32) (hk9 : Q_X11_readLine_9 mo mw ms mt mu dd wi hi sp ta sr co hb n k9) (k132 : Int32 → Int32 → Int32 → Int32 → Int32 → Int32 → Int32 → Int32 → Int32 → Int32 → MR → A → A → Out (MR × A × A) Int32) (hk132 : Q_X11_readLine_132 mo mw ms mt mu dd wi hi sp ta sr co hb n k132) : Q_X11_readLine_172 mo mw ms mt mu dd wi hi sp ta sr co hb n (F_X11_readLine_172 (srcB ms mt mu) ta k9 k132) := by
  intro v1 v2 v3 v4 v5 v6 v7 v8 v9 v10 mr gt li res hE hF
  unfold F_X11_readLine_172 at hE
  refine aw_iinc (v := (v7 + 1)) (lv2 := [(7, _), (0, _), (1, _), (2, _), (3, _), (4, _), (5, _), (6, _), (8, _), (9, _), (10, _)]) dX11_readLine_172 rfl (incE (by decide)) (by decide) rfl ?_
  refine aw_iinc (v := (v10 + 1)) (lv2 := [(10, _), (7, _), (0, _), (1, _), (2, _), (3, _), (4, _), (5, _), (6, _), (8, _), (9, _)]) dX11_readLine_175 rfl (incE (by decide)) (by decide) rfl ?_
  refine aw_goto (tgt := 132) dX11_readLine_178 (by decide) ?_
  exact aw_lv _ (List.forall_mem_cons.mpr ⟨rfl, (List.forall_mem_cons.mpr ⟨rfl, (List.forall_mem_cons.mpr ⟨rfl, (List.forall_mem_cons.mpr ⟨rfl, (List.forall_mem_cons.mpr ⟨rfl, (List.forall_mem_cons.mpr ⟨rfl, (List.forall_mem_cons.mpr ⟨rfl, (List.forall_mem_cons.mpr ⟨rfl, (List.forall_mem_cons.mpr ⟨rfl, (List.forall_mem_cons.mpr ⟨rfl, (List.forall_mem_cons.mpr ⟨rfl, fun _ h => absurd h List.not_mem_nil⟩)⟩)⟩)⟩)⟩)⟩)⟩)⟩)⟩)⟩)⟩) (hk132 v1 v2 v3 v4 v5 v6 (v7 + 1) v8 v9 (v10 + 1) mr gt li _ hE hF)
def F_X11_readLine_132 (sb : A) (ta : A) (k9 : Int32 → Int32 → Int32 → Int32 → Int32 → Int32 → Int32 → MR → A → A → Out (MR × A × A) Int32) (k132 : Int32 → Int32 → Int32 → Int32 → Int32 → Int32 → Int32 → Int32 → Int32 → Int32 → MR → A → A → Out (MR × A × A) Int32) (v1 : Int32) (v2 : Int32) (v3 : Int32) (v4 : Int32) (v5 : Int32) (v6 : Int32) (v7 : Int32) (v8 : Int32) (v9 : Int32) (v10 : Int32) (mr : MR) (gt : A) (li : A) : Out (MR × A × A) Int32 := if v9 ≤ v10 then (k9 v1 v2 v3 v4 v5 v6 v7 mr gt li) else (if ¬ v4 = 0 then (if v5 ≤ (v7 - v7 / v4 * v4) then (F_X11_readLine_172 sb ta k9 k132 v1 v2 v3 v4 v5 v6 v7 v8 v9 v10 mr gt li) else (if ¬ v4 = 0 then (if ¬ v4 = 0 then (if inb ((4096 * (v7 / v4)) + (v7 - v7 / v4 * v4)) 16384 then (F_X11_readLine_172 sb ta k9 k132 v1 v2 v3 v4 v5 v6 v7 v8 v9 v10 mr gt (upd li (Int32.toNatClampNeg ((4096 * (v7 / v4)) + (v7 - v7 / v4 * v4))) (vp_nar .byte (v8).toInt8.toInt32))) else fno) else fno) else fno)) else fno)
set_option maxHeartbeats 1000000 in
set_option maxRecDepth 100000 in
theorem b_X11_readLine_132 (mo : MO) (mw : MW) (ms : Nat) (mt : A) (mu : A) (dd : A) (wi : A) (hi : A) (sp : A) (ta : A) (sr : A) (co : A) (hb : aH) (n : Nat) (hms : isMS ms) (k9 : Int32 → Int32 → Int32 → Int32 → Int32 → Int32 → Int32 → MR → A → A → Out (MR × A × A) Int32) (hk9 : Q_X11_readLine_9 mo mw ms mt mu dd wi hi sp ta sr co hb n k9) (k132 : Int32 → Int32 → Int32 → Int32 → Int32 → Int32 → Int32 → Int32 → Int32 → Int32 → MR → A → A → Out (MR × A × A) Int32) (hk132 : Q_X11_readLine_132 mo mw ms mt mu dd wi hi sp ta sr co hb n k132) : Q_X11_readLine_132 mo mw ms mt mu dd wi hi sp ta sr co hb n (F_X11_readLine_132 (srcB ms mt mu) ta k9 k132) := by
  intro v1 v2 v3 v4 v5 v6 v7 v8 v9 v10 mr gt li res hE hF
  unfold F_X11_readLine_132 at hE
  refine aw_iload dX11_readLine_132 rfl ?_
  refine aw_iload dX11_readLine_134 rfl ?_
  refine aw_icmp_ge (tgt := 181) dX11_readLine_136 (by decide) (fun c136 => ?_) (fun c136 => ?_)
  · replace hE := fit hE c136
    refine aw_goto (tgt := 9) dX11_readLine_181 (by decide) ?_
    exact aw_lv _ (List.forall_mem_cons.mpr ⟨rfl, (List.forall_mem_cons.mpr ⟨rfl, (List.forall_mem_cons.mpr ⟨rfl, (List.forall_mem_cons.mpr ⟨rfl, (List.forall_mem_cons.mpr ⟨rfl, (List.forall_mem_cons.mpr ⟨rfl, (List.forall_mem_cons.mpr ⟨rfl, (List.forall_mem_cons.mpr ⟨rfl, fun _ h => absurd h List.not_mem_nil⟩)⟩)⟩)⟩)⟩)⟩)⟩)⟩) (hk9 v1 v2 v3 v4 v5 v6 v7 mr gt li _ hE hF)
  · replace hE := fif hE c136
    refine aw_iload dX11_readLine_139 rfl ?_
    refine aw_iload dX11_readLine_141 rfl ?_
    obtain ⟨g143, hE⟩ := fgd hE hF
    refine aw_irem dX11_readLine_143 g143 ?_
    refine aw_iload dX11_readLine_144 rfl ?_
    refine aw_icmp_ge (tgt := 172) dX11_readLine_146 (by decide) (fun c146 => ?_) (fun c146 => ?_)
    · replace hE := fit hE c146
      exact aw_lv _ (List.forall_mem_cons.mpr ⟨rfl, (List.forall_mem_cons.mpr ⟨rfl, (List.forall_mem_cons.mpr ⟨rfl, (List.forall_mem_cons.mpr ⟨rfl, (List.forall_mem_cons.mpr ⟨rfl, (List.forall_mem_cons.mpr ⟨rfl, (List.forall_mem_cons.mpr ⟨rfl, (List.forall_mem_cons.mpr ⟨rfl, (List.forall_mem_cons.mpr ⟨rfl, (List.forall_mem_cons.mpr ⟨rfl, (List.forall_mem_cons.mpr ⟨rfl, fun _ h => absurd h List.not_mem_nil⟩)⟩)⟩)⟩)⟩)⟩)⟩)⟩)⟩)⟩)⟩) (b_X11_readLine_172 mo mw ms mt mu dd wi hi sp ta sr co hb n hms k9 hk9 k132 hk132 v1 v2 v3 v4 v5 v6 v7 v8 v9 v10 mr gt li _ hE hF)
    · replace hE := fif hE c146
      refine aw_aload_n dX11_readLine_149 rfl ?_
      refine aw_getf (v := .ref 40) dX11_readLine_150 flX11_52_10 at_mod rfl ?_
      refine aw_sipush (v := 4096) dX11_readLine_153 (by decide) ?_
      refine aw_iload dX11_readLine_156 rfl ?_
      refine aw_iload dX11_readLine_158 rfl ?_
      obtain ⟨g160, hE⟩ := fgd hE hF
      refine aw_idiv dX11_readLine_160 g160 ?_
      refine aw_imul dX11_readLine_161 ?_
      refine aw_iload dX11_readLine_162 rfl ?_
      refine aw_iload dX11_readLine_164 rfl ?_
      obtain ⟨g166, hE⟩ := fgd hE hF
      refine aw_irem dX11_readLine_166 g166 ?_
      refine aw_iadd dX11_readLine_167 ?_
      refine aw_iload dX11_readLine_168 rfl ?_
      refine aw_i2b dX11_readLine_170 ?_
      obtain ⟨g171, hE⟩ := fgd hE hF
      refine aw_bast (f := li) dX11_readLine_171 at_mlines (vp_in_iff.mpr g171) ?_
      refine aw_eqh (h2 := HM mo mw mr ms mt mu dd wi hi gt sp ta (upd li (Int32.toNatClampNeg ((4096 * (v7 / v4)) + (v7 - v7 / v4 * v4))) (vp_nar .byte (v8).toInt8.toInt32)) sr co hb) up_mlines ?_
      exact aw_lv _ (List.forall_mem_cons.mpr ⟨rfl, (List.forall_mem_cons.mpr ⟨rfl, (List.forall_mem_cons.mpr ⟨rfl, (List.forall_mem_cons.mpr ⟨rfl, (List.forall_mem_cons.mpr ⟨rfl, (List.forall_mem_cons.mpr ⟨rfl, (List.forall_mem_cons.mpr ⟨rfl, (List.forall_mem_cons.mpr ⟨rfl, (List.forall_mem_cons.mpr ⟨rfl, (List.forall_mem_cons.mpr ⟨rfl, (List.forall_mem_cons.mpr ⟨rfl, fun _ h => absurd h List.not_mem_nil⟩)⟩)⟩)⟩)⟩)⟩)⟩)⟩)⟩)⟩)⟩) (b_X11_readLine_172 mo mw ms mt mu dd wi hi sp ta sr co hb n hms k9 hk9 k132 hk132 v1 v2 v3 v4 v5 v6 v7 v8 v9 v10 mr gt (upd li (Int32.toNatClampNeg ((4096 * (v7 / v4)) + (v7 - v7 / v4 * v4))) (vp_nar .byte (v8).toInt8.toInt32)) _ hE hF)
def F_X11_readLine_129 (sb : A) (ta : A) (k9 : Int32 → Int32 → Int32 → Int32 → Int32 → Int32 → Int32 → MR → A → A → Out (MR × A × A) Int32) (v1 : Int32) (v2 : Int32) (v3 : Int32) (v4 : Int32) (v5 : Int32) (v6 : Int32) (v7 : Int32) (v8 : Int32) (v9 : Int32) (mr : MR) (gt : A) (li : A) : Out (MR × A × A) Int32 := lp (fun _ _ _ _ _ _ _ _ _ _ _ _ _ => fno) (F_X11_readLine_132 sb ta k9) FU v1 v2 v3 v4 v5 v6 v7 v8 v9 (0 : Int32) mr gt li
set_option maxHeartbeats 1000000 in
set_option maxRecDepth 100000 in
theorem b_X11_readLine_129 (mo : MO) (mw : MW) (ms : Nat) (mt : A) (mu : A) (dd : A) (wi : A) (hi : A) (sp : A) (ta : A) (sr : A) (co : A) (hb : aH) (n : Nat) (hms : isMS ms) (k9 : Int32 → Int32 → Int32 → Int32 → Int32 → Int32 → Int32 → MR → A → A → Out (MR × A × A) Int32) (hk9 : Q_X11_readLine_9 mo mw ms mt mu dd wi hi sp ta sr co hb n k9) : Q_X11_readLine_129 mo mw ms mt mu dd wi hi sp ta sr co hb n (F_X11_readLine_129 (srcB ms mt mu) ta k9) := by
  intro v1 v2 v3 v4 v5 v6 v7 v8 v9 mr gt li res hE hF
  unfold F_X11_readLine_129 at hE
  refine aw_iconst (v := 0) dX11_readLine_129 (by decide) ?_
  refine aw_istore (lv2 := [(10, _), (0, _), (1, _), (2, _), (3, _), (4, _), (5, _), (6, _), (7, _), (8, _), (9, _)]) dX11_readLine_130 (by decide) rfl ?_
  exact aw_lv _ (List.forall_mem_cons.mpr ⟨rfl, (List.forall_mem_cons.mpr ⟨rfl, (List.forall_mem_cons.mpr ⟨rfl, (List.forall_mem_cons.mpr ⟨rfl, (List.forall_mem_cons.mpr ⟨rfl, (List.forall_mem_cons.mpr ⟨rfl, (List.forall_mem_cons.mpr ⟨rfl, (List.forall_mem_cons.mpr ⟨rfl, (List.forall_mem_cons.mpr ⟨rfl, (List.forall_mem_cons.mpr ⟨rfl, (List.forall_mem_cons.mpr ⟨rfl, fun _ h => absurd h List.not_mem_nil⟩)⟩)⟩)⟩)⟩)⟩)⟩)⟩)⟩)⟩)⟩) (lp_ind (Q_X11_readLine_132 mo mw ms mt mu dd wi hi sp ta sr co hb n) (fun _ _ _ _ _ _ _ _ _ _ _ _ _ res hq hF => (hF hq.symm).elim) (fun k hk => b_X11_readLine_132 mo mw ms mt mu dd wi hi sp ta sr co hb n hms k9 hk9 k hk) FU v1 v2 v3 v4 v5 v6 v7 v8 v9 (0 : Int32) mr gt li _ hE hF)
def F_X11_readLine_71 (sb : A) (ta : A)  (mr : MR) (gt : A) (li : A) : Out (MR × A × A) Int32 := fon (F_X11_wrong 4 (mr_pos mr) mr) (fun z77 s77 => if isB z77 then (fok (z77 : Int32) (s77, gt, li)) else fno) (fun _ _ => fno)
set_option maxHeartbeats 1000000 in
set_option maxRecDepth 100000 in
theorem b_X11_readLine_71 (mo : MO) (mw : MW) (ms : Nat) (mt : A) (mu : A) (dd : A) (wi : A) (hi : A) (sp : A) (ta : A) (sr : A) (co : A) (hb : aH) (n : Nat) (hms : isMS ms)  : Q_X11_readLine_71 mo mw ms mt mu dd wi hi sp ta sr co hb n (F_X11_readLine_71 (srcB ms mt mu) ta) := by
  intro mr gt li res hE hF
  unfold F_X11_readLine_71 at hE
  refine aw_aload_n dX11_readLine_71 rfl ?_
  refine aw_iconst (v := 4) dX11_readLine_72 (by decide) ?_
  refine aw_aload_n dX11_readLine_73 rfl ?_
  refine aw_getf (v := .int (mr_pos mr)) dX11_readLine_74 flX11_84_10 at_mod rfl ?_
  refine aw_callV dX11_readLine_77 at_mod cvX11_90 rfl (kF_X11_wrong mo mw mr ms mt mu dd wi hi gt sp ta li sr co hb _  4 (mr_pos mr) (fon_ne hE hF)) rfl (Nat.le_of_ble_eq_true rfl) (by decide) (by decide) (by decide) (by decide) (fun _ _ _ hf => False.elim hf) (fun r77 h77 n77 hp77 => ?_)
  obtain ⟨z77, s77, e77, rfl, rfl, rfl⟩ := hp77
  replace hE := fon_ok e77 hE
  obtain ⟨g80, hE⟩ := fgd hE hF
  exact aw_zret dX11_readLine_80 rfl (narB g80) (Nat.zero_le _) (Nat.zero_le _) (Nat.zero_le _) (Nat.zero_le _) ⟨_, _, hE.symm, rfl, rfl, rfl⟩
def F_X11_readLine_54 (sb : A) (ta : A) (k9 : Int32 → Int32 → Int32 → Int32 → Int32 → Int32 → Int32 → MR → A → A → Out (MR × A × A) Int32) (v1 : Int32) (v2 : Int32) (v3 : Int32) (v4 : Int32) (v5 : Int32) (v6 : Int32) (v7 : Int32) (v8 : Int32) (t0 : Int32) (mr : MR) (gt : A) (li : A) : Out (MR × A × A) Int32 := if t0 = 0 then (F_X11_readLine_71 sb ta mr gt li) else (if (v7 + t0) ≤ v6 then (if v8 < 192 then (F_X11_readLine_129 sb ta k9 v1 v2 v3 v4 v5 v6 v7 v8 t0 ((mr_size mr), ((mr_pos mr) + 1), (mr_kind mr), (mr_whr mr), (mr_gw mr), (mr_gh mr), (mr_one mr), (mr_two mr), (mr_three mr)) gt li) else (fon (F_X11_want 1 ((mr_size mr), ((mr_pos mr) + 1), (mr_kind mr), (mr_whr mr), (mr_gw mr), (mr_gh mr), (mr_one mr), (mr_two mr), (mr_three mr))) (fun z101 s101 => if z101 = 0 then (fok (0 : Int32) (s101, gt, li)) else (fon (F_X11_b (mr_pos s101) sb) (fun z114 s114 => F_X11_readLine_129 sb ta k9 v1 v2 v3 v4 v5 v6 v7 z114 t0 ((mr_size s101), ((mr_pos s101) + 1), (mr_kind s101), (mr_whr s101), (mr_gw s101), (mr_gh s101), (mr_one s101), (mr_two s101), (mr_three s101)) gt li) (fun _ _ => fno))) (fun _ _ => fno))) else (F_X11_readLine_71 sb ta mr gt li))
set_option maxHeartbeats 1000000 in
set_option maxRecDepth 100000 in
theorem b_X11_readLine_54 (mo : MO) (mw : MW) (ms : Nat) (mt : A) (mu : A) (dd : A) (wi : A) (hi : A) (sp : A) (ta : A) (sr : A) (co : A) (hb : aH) (n : Nat) (hms : isMS ms) (k9 : Int32 → Int32 → Int32 → Int32 → Int32 → Int32 → Int32 → MR → A → A → Out (MR × A × A) Int32) (hk9 : Q_X11_readLine_9 mo mw ms mt mu dd wi hi sp ta sr co hb n k9) : Q_X11_readLine_54 mo mw ms mt mu dd wi hi sp ta sr co hb n (F_X11_readLine_54 (srcB ms mt mu) ta k9) := by
  intro v1 v2 v3 v4 v5 v6 v7 v8 t0 mr gt li res hE hF
  unfold F_X11_readLine_54 at hE
  refine aw_istore (lv2 := [(9, _), (0, _), (1, _), (2, _), (3, _), (4, _), (5, _), (6, _), (7, _), (8, _)]) dX11_readLine_54 (by decide) rfl ?_
  refine aw_iload dX11_readLine_56 rfl ?_
  refine aw_if_eq (tgt := 71) dX11_readLine_58 (by decide) (fun c58 => ?_) (fun c58 => ?_)
  · replace hE := fit hE c58
    exact aw_lv _ (List.forall_mem_cons.mpr ⟨rfl, fun _ h => absurd h List.not_mem_nil⟩) (b_X11_readLine_71 mo mw ms mt mu dd wi hi sp ta sr co hb n hms  mr gt li _ hE hF)
  · replace hE := fif hE c58
    refine aw_iload dX11_readLine_61 rfl ?_
    refine aw_iload dX11_readLine_63 rfl ?_
    refine aw_iadd dX11_readLine_65 ?_
    refine aw_iload dX11_readLine_66 rfl ?_
    refine aw_icmp_le (tgt := 81) dX11_readLine_68 (by decide) (fun c68 => ?_) (fun c68 => ?_)
    · replace hE := fit hE c68
      refine aw_aload_n dX11_readLine_81 rfl ?_
      refine aw_dup dX11_readLine_82 rfl ?_
      refine aw_getf (v := .int (mr_pos mr)) dX11_readLine_83 flX11_84_10 at_mod rfl ?_
      refine aw_iconst (v := 1) dX11_readLine_86 (by decide) ?_
      refine aw_iadd dX11_readLine_87 ?_
      refine aw_putf dX11_readLine_88 ptX11_84_10 at_mod (Nat.le_of_ble_eq_true rfl) ⟨rfl, rfl⟩ ?_
      refine aw_eqh (h2 := HM mo mw ((mr_size mr), ((mr_pos mr) + 1), (mr_kind mr), (mr_whr mr), (mr_gw mr), (mr_gh mr), (mr_one mr), (mr_two mr), (mr_three mr)) ms mt mu dd wi hi gt sp ta li sr co hb) up_mod ?_
      refine aw_iload dX11_readLine_91 rfl ?_
      refine aw_sipush (v := 192) dX11_readLine_93 (by decide) ?_
      refine aw_icmp_lt (tgt := 129) dX11_readLine_96 (by decide) (fun c96 => ?_) (fun c96 => ?_)
      · replace hE := fit hE c96
        exact aw_lv _ (List.forall_mem_cons.mpr ⟨rfl, (List.forall_mem_cons.mpr ⟨rfl, (List.forall_mem_cons.mpr ⟨rfl, (List.forall_mem_cons.mpr ⟨rfl, (List.forall_mem_cons.mpr ⟨rfl, (List.forall_mem_cons.mpr ⟨rfl, (List.forall_mem_cons.mpr ⟨rfl, (List.forall_mem_cons.mpr ⟨rfl, (List.forall_mem_cons.mpr ⟨rfl, (List.forall_mem_cons.mpr ⟨rfl, fun _ h => absurd h List.not_mem_nil⟩)⟩)⟩)⟩)⟩)⟩)⟩)⟩)⟩)⟩) (b_X11_readLine_129 mo mw ms mt mu dd wi hi sp ta sr co hb n hms k9 hk9 v1 v2 v3 v4 v5 v6 v7 v8 t0 ((mr_size mr), ((mr_pos mr) + 1), (mr_kind mr), (mr_whr mr), (mr_gw mr), (mr_gh mr), (mr_one mr), (mr_two mr), (mr_three mr)) gt li _ hE hF)
      · replace hE := fif hE c96
        refine aw_aload_n dX11_readLine_99 rfl ?_
        refine aw_iconst (v := 1) dX11_readLine_100 (by decide) ?_
        refine aw_callV dX11_readLine_101 at_mod cvX11_103 rfl (kF_X11_want mo mw ((mr_size mr), ((mr_pos mr) + 1), (mr_kind mr), (mr_whr mr), (mr_gw mr), (mr_gh mr), (mr_one mr), (mr_two mr), (mr_three mr)) ms mt mu dd wi hi gt sp ta li sr co hb _  1 (fon_ne hE hF)) rfl (Nat.le_of_ble_eq_true rfl) (by decide) (by decide) (by decide) (by decide) (fun _ _ _ hf => False.elim hf) (fun r101 h101 n101 hp101 => ?_)
        obtain ⟨z101, s101, e101, rfl, rfl, rfl⟩ := hp101
        replace hE := fon_ok e101 hE
        refine aw_if_ne (tgt := 109) dX11_readLine_104 (by decide) (fun c104 => ?_) (fun c104 => ?_)
        · replace hE := fif hE c104
          refine aw_aload_n dX11_readLine_109 rfl ?_
          refine aw_aload_n dX11_readLine_110 rfl ?_
          refine aw_getf (v := .int (mr_pos s101)) dX11_readLine_111 flX11_84_10 at_mod rfl ?_
          refine aw_callV dX11_readLine_114 at_mod cvX11_99 rfl (kF_X11_b mo mw s101 ms mt mu dd wi hi gt sp ta li sr co hb _ hms (mr_pos s101) (fon_ne hE hF)) rfl (Nat.le_of_ble_eq_true rfl) (by decide) (by decide) (by decide) (by decide) (fun _ _ _ hf => False.elim hf) (fun r114 h114 n114 hp114 => ?_)
          obtain ⟨z114, s114, e114, rfl, rfl, rfl⟩ := hp114
          replace hE := fon_ok e114 hE
          refine aw_istore (lv2 := [(8, _), (9, _), (0, _), (1, _), (2, _), (3, _), (4, _), (5, _), (6, _), (7, _)]) dX11_readLine_117 (by decide) rfl ?_
          refine aw_aload_n dX11_readLine_119 rfl ?_
          refine aw_dup dX11_readLine_120 rfl ?_
          refine aw_getf (v := .int (mr_pos s101)) dX11_readLine_121 flX11_84_10 at_mod rfl ?_
          refine aw_iconst (v := 1) dX11_readLine_124 (by decide) ?_
          refine aw_iadd dX11_readLine_125 ?_
          refine aw_putf dX11_readLine_126 ptX11_84_10 at_mod (Nat.le_of_ble_eq_true rfl) ⟨rfl, rfl⟩ ?_
          refine aw_eqh (h2 := HM mo mw ((mr_size s101), ((mr_pos s101) + 1), (mr_kind s101), (mr_whr s101), (mr_gw s101), (mr_gh s101), (mr_one s101), (mr_two s101), (mr_three s101)) ms mt mu dd wi hi gt sp ta li sr co hb) up_mod ?_
          exact aw_lv _ (List.forall_mem_cons.mpr ⟨rfl, (List.forall_mem_cons.mpr ⟨rfl, (List.forall_mem_cons.mpr ⟨rfl, (List.forall_mem_cons.mpr ⟨rfl, (List.forall_mem_cons.mpr ⟨rfl, (List.forall_mem_cons.mpr ⟨rfl, (List.forall_mem_cons.mpr ⟨rfl, (List.forall_mem_cons.mpr ⟨rfl, (List.forall_mem_cons.mpr ⟨rfl, (List.forall_mem_cons.mpr ⟨rfl, fun _ h => absurd h List.not_mem_nil⟩)⟩)⟩)⟩)⟩)⟩)⟩)⟩)⟩)⟩) (b_X11_readLine_129 mo mw ms mt mu dd wi hi sp ta sr co hb n hms k9 hk9 v1 v2 v3 v4 v5 v6 v7 z114 t0 ((mr_size s101), ((mr_pos s101) + 1), (mr_kind s101), (mr_whr s101), (mr_gw s101), (mr_gh s101), (mr_one s101), (mr_two s101), (mr_three s101)) gt li _ hE hF)
        · replace hE := fit hE c104
          refine aw_iconst (v := 0) dX11_readLine_107 (by decide) ?_
          exact aw_zret dX11_readLine_108 rfl (narB (by decide)) (Nat.zero_le _) (Nat.zero_le _) (Nat.zero_le _) (Nat.zero_le _) ⟨_, _, hE.symm, rfl, rfl, rfl⟩
    · replace hE := fif hE c68
      exact aw_lv _ (List.forall_mem_cons.mpr ⟨rfl, fun _ h => absurd h List.not_mem_nil⟩) (b_X11_readLine_71 mo mw ms mt mu dd wi hi sp ta sr co hb n hms  mr gt li _ hE hF)
def F_X11_readLine_9 (sb : A) (ta : A) (k9 : Int32 → Int32 → Int32 → Int32 → Int32 → Int32 → Int32 → MR → A → A → Out (MR × A × A) Int32) (v1 : Int32) (v2 : Int32) (v3 : Int32) (v4 : Int32) (v5 : Int32) (v6 : Int32) (v7 : Int32) (mr : MR) (gt : A) (li : A) : Out (MR × A × A) Int32 := if v6 ≤ v7 then (lp (fun _ _ _ _ _ _ _ => fno) (F_X11_readLine_187 sb ta) FU v1 v2 v3 (0 : Int32) mr gt li) else (fon (F_X11_want 1 mr) (fun z18 s18 => if z18 = 0 then (fok (0 : Int32) (s18, gt, li)) else (fon (F_X11_b (mr_pos s18) sb) (fun z31 s31 => if 192 ≤ z31 then (F_X11_readLine_54 sb ta k9 v1 v2 v3 v4 v5 v6 v7 z31 (z31 - 192) s18 gt li) else (F_X11_readLine_54 sb ta k9 v1 v2 v3 v4 v5 v6 v7 z31 (1 : Int32) s18 gt li)) (fun _ _ => fno))) (fun _ _ => fno))
set_option maxHeartbeats 1000000 in
set_option maxRecDepth 100000 in
theorem b_X11_readLine_9 (mo : MO) (mw : MW) (ms : Nat) (mt : A) (mu : A) (dd : A) (wi : A) (hi : A) (sp : A) (ta : A) (sr : A) (co : A) (hb : aH) (n : Nat) (hms : isMS ms) (k9 : Int32 → Int32 → Int32 → Int32 → Int32 → Int32 → Int32 → MR → A → A → Out (MR × A × A) Int32) (hk9 : Q_X11_readLine_9 mo mw ms mt mu dd wi hi sp ta sr co hb n k9) : Q_X11_readLine_9 mo mw ms mt mu dd wi hi sp ta sr co hb n (F_X11_readLine_9 (srcB ms mt mu) ta k9) := by
  intro v1 v2 v3 v4 v5 v6 v7 mr gt li res hE hF
  unfold F_X11_readLine_9 at hE
  refine aw_iload dX11_readLine_9 rfl ?_
  refine aw_iload dX11_readLine_11 rfl ?_
  refine aw_icmp_ge (tgt := 184) dX11_readLine_13 (by decide) (fun c13 => ?_) (fun c13 => ?_)
  · replace hE := fit hE c13
    refine aw_iconst (v := 0) dX11_readLine_184 (by decide) ?_
    refine aw_istore (lv2 := [(8, _), (0, _), (1, _), (2, _), (3, _), (4, _), (5, _), (6, _), (7, _)]) dX11_readLine_185 (by decide) rfl ?_
    exact aw_lv _ (List.forall_mem_cons.mpr ⟨rfl, (List.forall_mem_cons.mpr ⟨rfl, (List.forall_mem_cons.mpr ⟨rfl, (List.forall_mem_cons.mpr ⟨rfl, (List.forall_mem_cons.mpr ⟨rfl, fun _ h => absurd h List.not_mem_nil⟩)⟩)⟩)⟩)⟩) (lp_ind (Q_X11_readLine_187 mo mw ms mt mu dd wi hi sp ta sr co hb n) (fun _ _ _ _ _ _ _ res hq hF => (hF hq.symm).elim) (fun k hk => b_X11_readLine_187 mo mw ms mt mu dd wi hi sp ta sr co hb n hms  k hk) FU v1 v2 v3 (0 : Int32) mr gt li _ hE hF)
  · replace hE := fif hE c13
    refine aw_aload_n dX11_readLine_16 rfl ?_
    refine aw_iconst (v := 1) dX11_readLine_17 (by decide) ?_
    refine aw_callV dX11_readLine_18 at_mod cvX11_103 rfl (kF_X11_want mo mw mr ms mt mu dd wi hi gt sp ta li sr co hb _  1 (fon_ne hE hF)) rfl (Nat.le_of_ble_eq_true rfl) (by decide) (by decide) (by decide) (by decide) (fun _ _ _ hf => False.elim hf) (fun r18 h18 n18 hp18 => ?_)
    obtain ⟨z18, s18, e18, rfl, rfl, rfl⟩ := hp18
    replace hE := fon_ok e18 hE
    refine aw_if_ne (tgt := 26) dX11_readLine_21 (by decide) (fun c21 => ?_) (fun c21 => ?_)
    · replace hE := fif hE c21
      refine aw_aload_n dX11_readLine_26 rfl ?_
      refine aw_aload_n dX11_readLine_27 rfl ?_
      refine aw_getf (v := .int (mr_pos s18)) dX11_readLine_28 flX11_84_10 at_mod rfl ?_
      refine aw_callV dX11_readLine_31 at_mod cvX11_99 rfl (kF_X11_b mo mw s18 ms mt mu dd wi hi gt sp ta li sr co hb _ hms (mr_pos s18) (fon_ne hE hF)) rfl (Nat.le_of_ble_eq_true rfl) (by decide) (by decide) (by decide) (by decide) (fun _ _ _ hf => False.elim hf) (fun r31 h31 n31 hp31 => ?_)
      obtain ⟨z31, s31, e31, rfl, rfl, rfl⟩ := hp31
      replace hE := fon_ok e31 hE
      refine aw_istore (lv2 := [(8, _), (0, _), (1, _), (2, _), (3, _), (4, _), (5, _), (6, _), (7, _)]) dX11_readLine_34 (by decide) rfl ?_
      refine aw_iload dX11_readLine_36 rfl ?_
      refine aw_sipush (v := 192) dX11_readLine_38 (by decide) ?_
      refine aw_icmp_ge (tgt := 48) dX11_readLine_41 (by decide) (fun c41 => ?_) (fun c41 => ?_)
      · replace hE := fit hE c41
        refine aw_iload dX11_readLine_48 rfl ?_
        refine aw_sipush (v := 192) dX11_readLine_50 (by decide) ?_
        refine aw_isub dX11_readLine_53 ?_
        exact aw_lv _ (List.forall_mem_cons.mpr ⟨rfl, (List.forall_mem_cons.mpr ⟨rfl, (List.forall_mem_cons.mpr ⟨rfl, (List.forall_mem_cons.mpr ⟨rfl, (List.forall_mem_cons.mpr ⟨rfl, (List.forall_mem_cons.mpr ⟨rfl, (List.forall_mem_cons.mpr ⟨rfl, (List.forall_mem_cons.mpr ⟨rfl, (List.forall_mem_cons.mpr ⟨rfl, fun _ h => absurd h List.not_mem_nil⟩)⟩)⟩)⟩)⟩)⟩)⟩)⟩)⟩) (b_X11_readLine_54 mo mw ms mt mu dd wi hi sp ta sr co hb n hms k9 hk9 v1 v2 v3 v4 v5 v6 v7 z31 (z31 - 192) s18 gt li _ hE hF)
      · replace hE := fif hE c41
        refine aw_iconst (v := 1) dX11_readLine_44 (by decide) ?_
        refine aw_goto (tgt := 54) dX11_readLine_45 (by decide) ?_
        exact aw_lv _ (List.forall_mem_cons.mpr ⟨rfl, (List.forall_mem_cons.mpr ⟨rfl, (List.forall_mem_cons.mpr ⟨rfl, (List.forall_mem_cons.mpr ⟨rfl, (List.forall_mem_cons.mpr ⟨rfl, (List.forall_mem_cons.mpr ⟨rfl, (List.forall_mem_cons.mpr ⟨rfl, (List.forall_mem_cons.mpr ⟨rfl, (List.forall_mem_cons.mpr ⟨rfl, fun _ h => absurd h List.not_mem_nil⟩)⟩)⟩)⟩)⟩)⟩)⟩)⟩)⟩) (b_X11_readLine_54 mo mw ms mt mu dd wi hi sp ta sr co hb n hms k9 hk9 v1 v2 v3 v4 v5 v6 v7 z31 (1 : Int32) s18 gt li _ hE hF)
    · replace hE := fit hE c21
      refine aw_iconst (v := 0) dX11_readLine_24 (by decide) ?_
      exact aw_zret dX11_readLine_25 rfl (narB (by decide)) (Nat.zero_le _) (Nat.zero_le _) (Nat.zero_le _) (Nat.zero_le _) ⟨_, _, hE.symm, rfl, rfl, rfl⟩
def F_X11_readLine (a1 : Int32) (a2 : Int32) (a3 : Int32) (a4 : Int32) (a5 : Int32) (sb : A) (mr : MR) (gt : A) (ta : A) (li : A) : Out (MR × A × A) Int32 := lp (fun _ _ _ _ _ _ _ _ _ _ => fno) (F_X11_readLine_9 sb ta) FU a1 a2 a3 a4 a5 (a3 * a4) (0 : Int32) mr gt li
set_option maxHeartbeats 1000000 in
set_option maxRecDepth 100000 in
theorem kF_X11_readLine (mo : MO) (mw : MW) (mr : MR) (ms : Nat) (mt : A) (mu : A) (dd : A) (wi : A) (hi : A) (gt : A) (sp : A) (ta : A) (li : A) (sr : A) (co : A) (hb : aH) (n : Nat) (hms : isMS ms) (a1 : Int32) (a2 : Int32) (a3 : Int32) (a4 : Int32) (a5 : Int32) (hF : F_X11_readLine a1 a2 a3 a4 a5 (srcB ms mt mu) mr gt ta li ≠ fno) : AM mX11_readLine 3 [.ref 31, .int a1, .int a2, .int a3, .int a4, .int a5] (HM mo mw mr ms mt mu dd wi hi gt sp ta li sr co hb) n 0 0 0 0 (P_X11_readLine mo mw ms mt mu dd wi hi sp ta sr co hb n (F_X11_readLine a1 a2 a3 a4 a5 (srcB ms mt mu) mr gt ta li)) (fun _ _ _ => False) := by
  generalize hE : F_X11_readLine a1 a2 a3 a4 a5 (srcB ms mt mu) mr gt ta li = res at hF ⊢
  refine aw_of (by decide +kernel) rfl (Nat.le_of_ble_eq_true rfl) ?_
  unfold F_X11_readLine at hE
  refine aw_iload_n dX11_readLine_0 rfl ?_
  refine aw_iload dX11_readLine_1 rfl ?_
  refine aw_imul dX11_readLine_3 ?_
  refine aw_istore (lv2 := [(6, _), (0, _), (1, _), (2, _), (3, _), (4, _), (5, _)]) dX11_readLine_4 (by decide) rfl ?_
  refine aw_iconst (v := 0) dX11_readLine_6 (by decide) ?_
  refine aw_istore (lv2 := [(7, _), (6, _), (0, _), (1, _), (2, _), (3, _), (4, _), (5, _)]) dX11_readLine_7 (by decide) rfl ?_
  exact aw_lv _ (List.forall_mem_cons.mpr ⟨rfl, (List.forall_mem_cons.mpr ⟨rfl, (List.forall_mem_cons.mpr ⟨rfl, (List.forall_mem_cons.mpr ⟨rfl, (List.forall_mem_cons.mpr ⟨rfl, (List.forall_mem_cons.mpr ⟨rfl, (List.forall_mem_cons.mpr ⟨rfl, (List.forall_mem_cons.mpr ⟨rfl, fun _ h => absurd h List.not_mem_nil⟩)⟩)⟩)⟩)⟩)⟩)⟩)⟩) (lp_ind (Q_X11_readLine_9 mo mw ms mt mu dd wi hi sp ta sr co hb n) (fun _ _ _ _ _ _ _ _ _ _ res hq hF => (hF hq.symm).elim) (fun k hk => b_X11_readLine_9 mo mw ms mt mu dd wi hi sp ta sr co hb n hms  k hk) FU a1 a2 a3 a4 a5 (a3 * a4) (0 : Int32) mr gt li _ hE hF)
