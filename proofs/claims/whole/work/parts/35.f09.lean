def P_X11_chain (mt : A) (hb : aH) (n : Nat) (res : Out (MO × MW × MR × Nat × A × A × A × A × A × A × A × A × A × A) Int32) : Option Value → aH → Nat → Prop := fun r1 h2 n2 => ∃ (a : Int32) (s : (MO × MW × MR × Nat × A × A × A × A × A × A × A × A × A × A)), res = fok a s ∧ r1 = some (.int a) ∧ h2 = HM s.1 s.2.1 s.2.2.1 s.2.2.2.1 mt s.2.2.2.2.1 s.2.2.2.2.2.1 s.2.2.2.2.2.2.1 s.2.2.2.2.2.2.2.1 s.2.2.2.2.2.2.2.2.1 s.2.2.2.2.2.2.2.2.2.1 s.2.2.2.2.2.2.2.2.2.2.1 s.2.2.2.2.2.2.2.2.2.2.2.1 s.2.2.2.2.2.2.2.2.2.2.2.2.1 s.2.2.2.2.2.2.2.2.2.2.2.2.2 hb ∧ n = n2
abbrev Q_X11_chain_31 (mt : A) (hb : aH) (n : Nat) (k : MO → MW → MR → Nat → A → A → A → A → A → A → A → A → A → A → Out (MO × MW × MR × Nat × A × A × A × A × A × A × A × A × A × A) Int32) : Prop := ∀ (mo : MO) (mw : MW) (mr : MR) (ms : Nat) (mu : A) (dd : A) (wi : A) (hi : A) (gt : A) (sp : A) (ta : A) (li : A) (sr : A) (co : A) (res : Out (MO × MW × MR × Nat × A × A × A × A × A × A × A × A × A × A) Int32), k mo mw mr ms mu dd wi hi gt sp ta li sr co = res → res ≠ fno → AW (fun _ _ => True) mX11_chain (rmD 8 0 0) 0 0 (P_X11_chain mt hb n res) (fun _ _ _ => False) 0 0 31 [] [] (HM mo mw mr ms mt mu dd wi hi gt sp ta li sr co hb) n
abbrev Q_X11_chain_39 (mt : A) (hb : aH) (n : Nat) (k : Int32 → Int32 → Int32 → Int32 → Int32 → MO → MW → MR → Nat → A → A → A → A → A → A → A → A → A → A → Out (MO × MW × MR × Nat × A × A × A × A × A × A × A × A × A × A) Int32) : Prop := ∀ (v1 : Int32) (v2 : Int32) (v3 : Int32) (v4 : Int32) (v5 : Int32) (mo : MO) (mw : MW) (mr : MR) (ms : Nat) (mu : A) (dd : A) (wi : A) (hi : A) (gt : A) (sp : A) (ta : A) (li : A) (sr : A) (co : A) (res : Out (MO × MW × MR × Nat × A × A × A × A × A × A × A × A × A × A) Int32), k v1 v2 v3 v4 v5 mo mw mr ms mu dd wi hi gt sp ta li sr co = res → res ≠ fno → AW (fun _ _ => True) mX11_chain (rmD 8 0 0) 0 0 (P_X11_chain mt hb n res) (fun _ _ _ => False) 0 0 39 [(0, .ref 31), (1, .int v1), (2, .int v2), (3, .int v3), (4, .int v4), (5, .int v5)] [] (HM mo mw mr ms mt mu dd wi hi gt sp ta li sr co hb) n
abbrev Q_X11_chain_82 (mt : A) (hb : aH) (n : Nat) (k : Int32 → Int32 → Int32 → Int32 → Int32 → MO → MW → MR → Nat → A → A → A → A → A → A → A → A → A → A → Out (MO × MW × MR × Nat × A × A × A × A × A × A × A × A × A × A) Int32) : Prop := ∀ (v1 : Int32) (v2 : Int32) (v3 : Int32) (v4 : Int32) (v6 : Int32) (mo : MO) (mw : MW) (mr : MR) (ms : Nat) (mu : A) (dd : A) (wi : A) (hi : A) (gt : A) (sp : A) (ta : A) (li : A) (sr : A) (co : A) (res : Out (MO × MW × MR × Nat × A × A × A × A × A × A × A × A × A × A) Int32), k v1 v2 v3 v4 v6 mo mw mr ms mu dd wi hi gt sp ta li sr co = res → res ≠ fno → AW (fun _ _ => True) mX11_chain (rmD 8 0 0) 0 0 (P_X11_chain mt hb n res) (fun _ _ _ => False) 0 0 82 [(0, .ref 31), (1, .int v1), (2, .int v2), (3, .int v3), (4, .int v4), (6, .int v6)] [] (HM mo mw mr ms mt mu dd wi hi gt sp ta li sr co hb) n
abbrev Q_X11_chain_83 (mt : A) (hb : aH) (n : Nat) (k : Int32 → Int32 → Int32 → Int32 → Int32 → Int32 → MO → MW → MR → Nat → A → A → A → A → A → A → A → A → A → A → Out (MO × MW × MR × Nat × A × A × A × A × A × A × A × A × A × A) Int32) : Prop := ∀ (v1 : Int32) (v2 : Int32) (v3 : Int32) (v4 : Int32) (v6 : Int32) (t0 : Int32) (mo : MO) (mw : MW) (mr : MR) (ms : Nat) (mu : A) (dd : A) (wi : A) (hi : A) (gt : A) (sp : A) (ta : A) (li : A) (sr : A) (co : A) (res : Out (MO × MW × MR × Nat × A × A × A × A × A × A × A × A × A × A) Int32), k v1 v2 v3 v4 v6 t0 mo mw mr ms mu dd wi hi gt sp ta li sr co = res → res ≠ fno → AW (fun _ _ => True) mX11_chain (rmD 8 0 0) 0 0 (P_X11_chain mt hb n res) (fun _ _ _ => False) 0 0 83 [(0, .ref 31), (1, .int v1), (2, .int v2), (3, .int v3), (4, .int v4), (6, .int v6)] [.int t0] (HM mo mw mr ms mt mu dd wi hi gt sp ta li sr co hb) n
abbrev Q_X11_chain_140 (mt : A) (hb : aH) (n : Nat) (k : Int32 → Int32 → Int32 → Int32 → Int32 → Int32 → MO → MW → MR → Nat → A → A → A → A → A → A → A → A → A → A → Out (MO × MW × MR × Nat × A × A × A × A × A × A × A × A × A × A) Int32) : Prop := ∀ (v1 : Int32) (v2 : Int32) (v3 : Int32) (v4 : Int32) (v5 : Int32) (t0 : Int32) (mo : MO) (mw : MW) (mr : MR) (ms : Nat) (mu : A) (dd : A) (wi : A) (hi : A) (gt : A) (sp : A) (ta : A) (li : A) (sr : A) (co : A) (res : Out (MO × MW × MR × Nat × A × A × A × A × A × A × A × A × A × A) Int32), k v1 v2 v3 v4 v5 t0 mo mw mr ms mu dd wi hi gt sp ta li sr co = res → res ≠ fno → AW (fun _ _ => True) mX11_chain (rmD 8 0 0) 0 0 (P_X11_chain mt hb n res) (fun _ _ _ => False) 0 0 140 [(0, .ref 31), (1, .int v1), (2, .int v2), (3, .int v3), (4, .int v4), (5, .int v5)] [.int t0] (HM mo mw mr ms mt mu dd wi hi gt sp ta li sr co hb) n
abbrev Q_X11_chain_166 (mt : A) (hb : aH) (n : Nat) (k : Int32 → Int32 → Int32 → Int32 → Int32 → MO → MW → MR → Nat → A → A → A → A → A → A → A → A → A → A → Out (MO × MW × MR × Nat × A × A × A × A × A × A × A × A × A × A) Int32) : Prop := ∀ (v1 : Int32) (v2 : Int32) (v3 : Int32) (v4 : Int32) (v5 : Int32) (mo : MO) (mw : MW) (mr : MR) (ms : Nat) (mu : A) (dd : A) (wi : A) (hi : A) (gt : A) (sp : A) (ta : A) (li : A) (sr : A) (co : A) (res : Out (MO × MW × MR × Nat × A × A × A × A × A × A × A × A × A × A) Int32), k v1 v2 v3 v4 v5 mo mw mr ms mu dd wi hi gt sp ta li sr co = res → res ≠ fno → AW (fun _ _ => True) mX11_chain (rmD 8 0 0) 0 0 (P_X11_chain mt hb n res) (fun _ _ _ => False) 0 0 166 [(0, .ref 31), (1, .int v1), (2, .int v2), (3, .int v3), (4, .int v4), (5, .int v5)] [] (HM mo mw mr ms mt mu dd wi hi gt sp ta li sr co hb) n
abbrev Q_X11_chain_169 (mt : A) (hb : aH) (n : Nat) (k : Int32 → Int32 → Int32 → Int32 → Int32 → MO → MW → MR → Nat → A → A → A → A → A → A → A → A → A → A → Out (MO × MW × MR × Nat × A × A × A × A × A × A × A × A × A × A) Int32) : Prop := ∀ (v1 : Int32) (v2 : Int32) (v3 : Int32) (v4 : Int32) (v5 : Int32) (mo : MO) (mw : MW) (mr : MR) (ms : Nat) (mu : A) (dd : A) (wi : A) (hi : A) (gt : A) (sp : A) (ta : A) (li : A) (sr : A) (co : A) (res : Out (MO × MW × MR × Nat × A × A × A × A × A × A × A × A × A × A) Int32), k v1 v2 v3 v4 v5 mo mw mr ms mu dd wi hi gt sp ta li sr co = res → res ≠ fno → AW (fun _ _ => True) mX11_chain (rmD 8 0 0) 0 0 (P_X11_chain mt hb n res) (fun _ _ _ => False) 0 0 169 [(0, .ref 31), (1, .int v1), (2, .int v2), (3, .int v3), (4, .int v4), (5, .int v5)] [] (HM mo mw mr ms mt mu dd wi hi gt sp ta li sr co hb) n
abbrev Q_X11_chain_172 (mt : A) (hb : aH) (n : Nat) (k : Int32 → MO → MW → MR → Nat → A → A → A → A → A → A → A → A → A → A → Out (MO × MW × MR × Nat × A × A × A × A × A × A × A × A × A × A) Int32) : Prop := ∀ (v4 : Int32) (mo : MO) (mw : MW) (mr : MR) (ms : Nat) (mu : A) (dd : A) (wi : A) (hi : A) (gt : A) (sp : A) (ta : A) (li : A) (sr : A) (co : A) (res : Out (MO × MW × MR × Nat × A × A × A × A × A × A × A × A × A × A) Int32), k v4 mo mw mr ms mu dd wi hi gt sp ta li sr co = res → res ≠ fno → AW (fun _ _ => True) mX11_chain (rmD 8 0 0) 0 0 (P_X11_chain mt hb n res) (fun _ _ _ => False) 0 0 172 [(4, .int v4)] [] (HM mo mw mr ms mt mu dd wi hi gt sp ta li sr co hb) n
def F_X11_chain_172 (mt : A)  (v4 : Int32) (mo : MO) (mw : MW) (mr : MR) (ms : Nat) (mu : A) (dd : A) (wi : A) (hi : A) (gt : A) (sp : A) (ta : A) (li : A) (sr : A) (co : A) : Out (MO × MW × MR × Nat × A × A × A × A × A × A × A × A × A × A) Int32 := fok (v4 : Int32) (mo, mw, mr, ms, mu, dd, wi, hi, gt, sp, ta, li, sr, co)
set_option maxHeartbeats 1000000 in
set_option maxRecDepth 100000 in
theorem b_X11_chain_172 (mt : A) (hb : aH) (n : Nat)   : Q_X11_chain_172 mt hb n (F_X11_chain_172 mt) := by
  intro v4 mo mw mr ms mu dd wi hi gt sp ta li sr co res hE hF
  unfold F_X11_chain_172 at hE
  refine aw_iload dX11_chain_172 rfl ?_
  exact aw_iret dX11_chain_174 rfl (Nat.zero_le _) (Nat.zero_le _) (Nat.zero_le _) (Nat.zero_le _) ⟨_, _, hE.symm, rfl, rfl, rfl⟩
def F_X11_chain_169 (mt : A) (k39 : Int32 → Int32 → Int32 → Int32 → Int32 → MO → MW → MR → Nat → A → A → A → A → A → A → A → A → A → A → Out (MO × MW × MR × Nat × A × A × A × A × A × A × A × A × A × A) Int32) (v1 : Int32) (v2 : Int32) (v3 : Int32) (v4 : Int32) (v5 : Int32) (mo : MO) (mw : MW) (mr : MR) (ms : Nat) (mu : A) (dd : A) (wi : A) (hi : A) (gt : A) (sp : A) (ta : A) (li : A) (sr : A) (co : A) : Out (MO × MW × MR × Nat × A × A × A × A × A × A × A × A × A × A) Int32 := k39 v1 v2 v3 v4 v5 mo mw mr ms mu dd wi hi gt sp ta li sr co
set_option maxHeartbeats 1000000 in
set_option maxRecDepth 100000 in
theorem b_X11_chain_169 (mt : A) (hb : aH) (n : Nat)  (k39 : Int32 → Int32 → Int32 → Int32 → Int32 → MO → MW → MR → Nat → A → A → A → A → A → A → A → A → A → A → Out (MO × MW × MR × Nat × A × A × A × A × A × A × A × A × A × A) Int32) (hk39 : Q_X11_chain_39 mt hb n k39) : Q_X11_chain_169 mt hb n (F_X11_chain_169 mt k39) := by
  intro v1 v2 v3 v4 v5 mo mw mr ms mu dd wi hi gt sp ta li sr co res hE hF
  unfold F_X11_chain_169 at hE
  refine aw_goto (tgt := 39) dX11_chain_169 (by decide) ?_
  exact aw_lv _ (List.forall_mem_cons.mpr ⟨rfl, (List.forall_mem_cons.mpr ⟨rfl, (List.forall_mem_cons.mpr ⟨rfl, (List.forall_mem_cons.mpr ⟨rfl, (List.forall_mem_cons.mpr ⟨rfl, (List.forall_mem_cons.mpr ⟨rfl, fun _ h => absurd h List.not_mem_nil⟩)⟩)⟩)⟩)⟩)⟩) (hk39 v1 v2 v3 v4 v5 mo mw mr ms mu dd wi hi gt sp ta li sr co _ hE hF)
def F_X11_chain_166 (mt : A) (k39 : Int32 → Int32 → Int32 → Int32 → Int32 → MO → MW → MR → Nat → A → A → A → A → A → A → A → A → A → A → Out (MO × MW × MR × Nat × A × A × A × A × A × A × A × A × A × A) Int32) (v1 : Int32) (v2 : Int32) (v3 : Int32) (v4 : Int32) (v5 : Int32) (mo : MO) (mw : MW) (mr : MR) (ms : Nat) (mu : A) (dd : A) (wi : A) (hi : A) (gt : A) (sp : A) (ta : A) (li : A) (sr : A) (co : A) : Out (MO × MW × MR × Nat × A × A × A × A × A × A × A × A × A × A) Int32 := F_X11_chain_169 mt k39 v1 v2 v3 (v4 + 1) v5 mo mw mr ms mu dd wi hi gt sp ta li sr co
set_option maxHeartbeats 1000000 in
set_option maxRecDepth 100000 in
theorem b_X11_chain_166 (mt : A) (hb : aH) (n : Nat)  (k39 : Int32 → Int32 → Int32 → Int32 → Int32 → MO → MW → MR → Nat → A → A → A → A → A → A → A → A → A → A → Out (MO × MW × MR × Nat × A × A × A × A × A × A × A × A × A × A) Int32) (hk39 : Q_X11_chain_39 mt hb n k39) : Q_X11_chain_166 mt hb n (F_X11_chain_166 mt k39) := by
  intro v1 v2 v3 v4 v5 mo mw mr ms mu dd wi hi gt sp ta li sr co res hE hF
  unfold F_X11_chain_166 at hE
  refine aw_iinc (v := (v4 + 1)) (lv2 := [(4, _), (0, _), (1, _), (2, _), (3, _), (5, _)]) dX11_chain_166 rfl (incE (by decide)) (by decide) rfl ?_
  exact aw_lv _ (List.forall_mem_cons.mpr ⟨rfl, (List.forall_mem_cons.mpr ⟨rfl, (List.forall_mem_cons.mpr ⟨rfl, (List.forall_mem_cons.mpr ⟨rfl, (List.forall_mem_cons.mpr ⟨rfl, (List.forall_mem_cons.mpr ⟨rfl, fun _ h => absurd h List.not_mem_nil⟩)⟩)⟩)⟩)⟩)⟩) (b_X11_chain_169 mt hb n  k39 hk39 v1 v2 v3 (v4 + 1) v5 mo mw mr ms mu dd wi hi gt sp ta li sr co _ hE hF)
def F_X11_chain_140 (mt : A) (k39 : Int32 → Int32 → Int32 → Int32 → Int32 → MO → MW → MR → Nat → A → A → A → A → A → A → A → A → A → A → Out (MO × MW × MR × Nat × A × A × A × A × A × A × A × A × A × A) Int32) (v1 : Int32) (v2 : Int32) (v3 : Int32) (v4 : Int32) (v5 : Int32) (t0 : Int32) (mo : MO) (mw : MW) (mr : MR) (ms : Nat) (mu : A) (dd : A) (wi : A) (hi : A) (gt : A) (sp : A) (ta : A) (li : A) (sr : A) (co : A) : Out (MO × MW × MR × Nat × A × A × A × A × A × A × A × A × A × A) Int32 := fon (F_X11_readFile t0 (mw_om mw) 33 mr ms mt mu gt sp ta li) (fun z153 s153 => if z153 = 0 then (F_X11_chain_166 mt k39 v1 v2 v3 v4 v5 mo mw s153.1 s153.2.1 mu dd wi hi s153.2.2.1 s153.2.2.2.1 s153.2.2.2.2.1 s153.2.2.2.2.2 sr co) else (fon (F_X11_keep t0 v1 mo s153.1 dd wi hi s153.2.2.1) (fun z163 s163 => F_X11_chain_166 mt k39 v1 v2 v3 v4 v5 s163.1 mw s153.1 s153.2.1 mu s163.2.1 s163.2.2.1 s163.2.2.2 s153.2.2.1 s153.2.2.2.1 s153.2.2.2.2.1 s153.2.2.2.2.2 sr co) (fun _ _ => fno))) (fun _ _ => fno)
set_option maxHeartbeats 1000000 in
set_option maxRecDepth 100000 in
theorem b_X11_chain_140 (mt : A) (hb : aH) (n : Nat)  (k39 : Int32 → Int32 → Int32 → Int32 → Int32 → MO → MW → MR → Nat → A → A → A → A → A → A → A → A → A → A → Out (MO × MW × MR × Nat × A × A × A × A × A × A × A × A × A × A) Int32) (hk39 : Q_X11_chain_39 mt hb n k39) : Q_X11_chain_140 mt hb n (F_X11_chain_140 mt k39) := by
  intro v1 v2 v3 v4 v5 t0 mo mw mr ms mu dd wi hi gt sp ta li sr co res hE hF
  unfold F_X11_chain_140 at hE
  refine aw_istore (lv2 := [(7, _), (0, _), (1, _), (2, _), (3, _), (4, _), (5, _)]) dX11_chain_140 (by decide) rfl ?_
  refine aw_aload_n dX11_chain_142 rfl ?_
  refine aw_iload dX11_chain_143 rfl ?_
  refine aw_aload_n dX11_chain_145 rfl ?_
  refine aw_getf (v := .ref 33) dX11_chain_146 flX11_14_10 at_mod rfl ?_
  refine aw_aload_n dX11_chain_149 rfl ?_
  refine aw_getf (v := .int (mw_om mw)) dX11_chain_150 flX11_75_10 at_mod rfl ?_
  refine aw_callV dX11_chain_153 at_mod cvX11_248 rfl (kF_X11_readFile mo mw mr ms mt mu dd wi hi gt sp ta li sr co hb 33 _ (Or.inr rfl) t0 (mw_om mw) (fon_ne hE hF)) rfl (Nat.le_of_ble_eq_true rfl) (by decide) (by decide) (by decide) (by decide) (fun _ _ _ hf => False.elim hf) (fun r153 h153 n153 hp153 => ?_)
  obtain ⟨z153, s153, e153, rfl, rfl, rfl⟩ := hp153
  replace hE := fon_ok e153 hE
  refine aw_if_eq (tgt := 166) dX11_chain_156 (by decide) (fun c156 => ?_) (fun c156 => ?_)
  · replace hE := fit hE c156
    exact aw_lv _ (List.forall_mem_cons.mpr ⟨rfl, (List.forall_mem_cons.mpr ⟨rfl, (List.forall_mem_cons.mpr ⟨rfl, (List.forall_mem_cons.mpr ⟨rfl, (List.forall_mem_cons.mpr ⟨rfl, (List.forall_mem_cons.mpr ⟨rfl, fun _ h => absurd h List.not_mem_nil⟩)⟩)⟩)⟩)⟩)⟩) (b_X11_chain_166 mt hb n  k39 hk39 v1 v2 v3 v4 v5 mo mw s153.1 s153.2.1 mu dd wi hi s153.2.2.1 s153.2.2.2.1 s153.2.2.2.2.1 s153.2.2.2.2.2 sr co _ hE hF)
  · replace hE := fif hE c156
    refine aw_aload_n dX11_chain_159 rfl ?_
    refine aw_iload dX11_chain_160 rfl ?_
    refine aw_iload_n dX11_chain_162 rfl ?_
    refine aw_callV dX11_chain_163 at_mod cvX11_252 rfl (kF_X11_keep mo mw s153.1 s153.2.1 mt mu dd wi hi s153.2.2.1 s153.2.2.2.1 s153.2.2.2.2.1 s153.2.2.2.2.2 sr co hb _  t0 v1 (fon_ne hE hF)) rfl (Nat.le_of_ble_eq_true rfl) (by decide) (by decide) (by decide) (by decide) (fun _ _ _ hf => False.elim hf) (fun r163 h163 n163 hp163 => ?_)
    obtain ⟨z163, s163, e163, rfl, rfl, rfl⟩ := hp163
    replace hE := fon_ok e163 hE
    exact aw_lv _ (List.forall_mem_cons.mpr ⟨rfl, (List.forall_mem_cons.mpr ⟨rfl, (List.forall_mem_cons.mpr ⟨rfl, (List.forall_mem_cons.mpr ⟨rfl, (List.forall_mem_cons.mpr ⟨rfl, (List.forall_mem_cons.mpr ⟨rfl, fun _ h => absurd h List.not_mem_nil⟩)⟩)⟩)⟩)⟩)⟩) (b_X11_chain_166 mt hb n  k39 hk39 v1 v2 v3 v4 v5 s163.1 mw s153.1 s153.2.1 mu s163.2.1 s163.2.2.1 s163.2.2.2 s153.2.2.1 s153.2.2.2.1 s153.2.2.2.2.1 s153.2.2.2.2.2 sr co _ hE hF)
def F_X11_chain_83 (mt : A) (k39 : Int32 → Int32 → Int32 → Int32 → Int32 → MO → MW → MR → Nat → A → A → A → A → A → A → A → A → A → A → Out (MO × MW × MR × Nat × A × A × A × A × A × A × A × A × A × A) Int32) (v1 : Int32) (v2 : Int32) (v3 : Int32) (v4 : Int32) (v6 : Int32) (t0 : Int32) (mo : MO) (mw : MW) (mr : MR) (ms : Nat) (mu : A) (dd : A) (wi : A) (hi : A) (gt : A) (sp : A) (ta : A) (li : A) (sr : A) (co : A) : Out (MO × MW × MR × Nat × A × A × A × A × A × A × A × A × A × A) Int32 := if t0 = 0 then (F_X11_chain_169 mt k39 v1 v2 v3 v4 t0 mo mw mr ms mu dd wi hi gt sp ta li sr co) else (fon (F_X11_writeFile v1 v6 mw mu dd wi hi sp co) (fun z94 s94 => if v6 = 0 then (F_X11_chain_140 mt k39 v1 v2 v3 v4 t0 (0 : Int32) mo s94.1 mr ms s94.2.1 dd wi hi gt s94.2.2.1 ta li sr s94.2.2.2) else (if 7 ≤ v6 then (if 10 ≤ v6 then (if 16 ≤ v6 then (F_X11_chain_140 mt k39 v1 v2 v3 v4 t0 (4 : Int32) mo s94.1 mr ms s94.2.1 dd wi hi gt s94.2.2.1 ta li sr s94.2.2.2) else (F_X11_chain_140 mt k39 v1 v2 v3 v4 t0 (3 : Int32) mo s94.1 mr ms s94.2.1 dd wi hi gt s94.2.2.1 ta li sr s94.2.2.2)) else (F_X11_chain_140 mt k39 v1 v2 v3 v4 t0 (2 : Int32) mo s94.1 mr ms s94.2.1 dd wi hi gt s94.2.2.1 ta li sr s94.2.2.2)) else (F_X11_chain_140 mt k39 v1 v2 v3 v4 t0 (1 : Int32) mo s94.1 mr ms s94.2.1 dd wi hi gt s94.2.2.1 ta li sr s94.2.2.2))) (fun _ _ => fno))
set_option maxHeartbeats 1000000 in
set_option maxRecDepth 100000 in
theorem b_X11_chain_83 (mt : A) (hb : aH) (n : Nat)  (k39 : Int32 → Int32 → Int32 → Int32 → Int32 → MO → MW → MR → Nat → A → A → A → A → A → A → A → A → A → A → Out (MO × MW × MR × Nat × A × A × A × A × A × A × A × A × A × A) Int32) (hk39 : Q_X11_chain_39 mt hb n k39) : Q_X11_chain_83 mt hb n (F_X11_chain_83 mt k39) := by
  intro v1 v2 v3 v4 v6 t0 mo mw mr ms mu dd wi hi gt sp ta li sr co res hE hF
  unfold F_X11_chain_83 at hE
  refine aw_istore (lv2 := [(5, _), (0, _), (1, _), (2, _), (3, _), (4, _), (6, _)]) dX11_chain_83 (by decide) rfl ?_
  refine aw_iload dX11_chain_85 rfl ?_
  refine aw_if_eq (tgt := 169) dX11_chain_87 (by decide) (fun c87 => ?_) (fun c87 => ?_)
  · replace hE := fit hE c87
    exact aw_lv _ (List.forall_mem_cons.mpr ⟨rfl, (List.forall_mem_cons.mpr ⟨rfl, (List.forall_mem_cons.mpr ⟨rfl, (List.forall_mem_cons.mpr ⟨rfl, (List.forall_mem_cons.mpr ⟨rfl, (List.forall_mem_cons.mpr ⟨rfl, fun _ h => absurd h List.not_mem_nil⟩)⟩)⟩)⟩)⟩)⟩) (b_X11_chain_169 mt hb n  k39 hk39 v1 v2 v3 v4 t0 mo mw mr ms mu dd wi hi gt sp ta li sr co _ hE hF)
  · replace hE := fif hE c87
    refine aw_aload_n dX11_chain_90 rfl ?_
    refine aw_iload_n dX11_chain_91 rfl ?_
    refine aw_iload dX11_chain_92 rfl ?_
    refine aw_callV dX11_chain_94 at_mod cvX11_331 rfl (kF_X11_writeFile mo mw mr ms mt mu dd wi hi gt sp ta li sr co hb _  v1 v6 (fon_ne hE hF)) rfl (Nat.le_of_ble_eq_true rfl) (by decide) (by decide) (by decide) (by decide) (fun _ _ _ hf => False.elim hf) (fun r94 h94 n94 hp94 => ?_)
    obtain ⟨z94, s94, e94, rfl, rfl, rfl⟩ := hp94
    replace hE := fon_ok e94 hE
    refine aw_iload dX11_chain_97 rfl ?_
    refine aw_if_ne (tgt := 106) dX11_chain_99 (by decide) (fun c99 => ?_) (fun c99 => ?_)
    · replace hE := fif hE c99
      refine aw_iload dX11_chain_106 rfl ?_
      refine aw_bipush (v := 7) dX11_chain_108 (by decide) ?_
      refine aw_icmp_ge (tgt := 117) dX11_chain_110 (by decide) (fun c110 => ?_) (fun c110 => ?_)
      · replace hE := fit hE c110
        refine aw_iload dX11_chain_117 rfl ?_
        refine aw_bipush (v := 10) dX11_chain_119 (by decide) ?_
        refine aw_icmp_ge (tgt := 128) dX11_chain_121 (by decide) (fun c121 => ?_) (fun c121 => ?_)
        · replace hE := fit hE c121
          refine aw_iload dX11_chain_128 rfl ?_
          refine aw_bipush (v := 16) dX11_chain_130 (by decide) ?_
          refine aw_icmp_ge (tgt := 139) dX11_chain_132 (by decide) (fun c132 => ?_) (fun c132 => ?_)
          · replace hE := fit hE c132
            refine aw_iconst (v := 4) dX11_chain_139 (by decide) ?_
            exact aw_lv _ (List.forall_mem_cons.mpr ⟨rfl, (List.forall_mem_cons.mpr ⟨rfl, (List.forall_mem_cons.mpr ⟨rfl, (List.forall_mem_cons.mpr ⟨rfl, (List.forall_mem_cons.mpr ⟨rfl, (List.forall_mem_cons.mpr ⟨rfl, fun _ h => absurd h List.not_mem_nil⟩)⟩)⟩)⟩)⟩)⟩) (b_X11_chain_140 mt hb n  k39 hk39 v1 v2 v3 v4 t0 (4 : Int32) mo s94.1 mr ms s94.2.1 dd wi hi gt s94.2.2.1 ta li sr s94.2.2.2 _ hE hF)
          · replace hE := fif hE c132
            refine aw_iconst (v := 3) dX11_chain_135 (by decide) ?_
            refine aw_goto (tgt := 140) dX11_chain_136 (by decide) ?_
            exact aw_lv _ (List.forall_mem_cons.mpr ⟨rfl, (List.forall_mem_cons.mpr ⟨rfl, (List.forall_mem_cons.mpr ⟨rfl, (List.forall_mem_cons.mpr ⟨rfl, (List.forall_mem_cons.mpr ⟨rfl, (List.forall_mem_cons.mpr ⟨rfl, fun _ h => absurd h List.not_mem_nil⟩)⟩)⟩)⟩)⟩)⟩) (b_X11_chain_140 mt hb n  k39 hk39 v1 v2 v3 v4 t0 (3 : Int32) mo s94.1 mr ms s94.2.1 dd wi hi gt s94.2.2.1 ta li sr s94.2.2.2 _ hE hF)
        · replace hE := fif hE c121
          refine aw_iconst (v := 2) dX11_chain_124 (by decide) ?_
          refine aw_goto (tgt := 140) dX11_chain_125 (by decide) ?_
          exact aw_lv _ (List.forall_mem_cons.mpr ⟨rfl, (List.forall_mem_cons.mpr ⟨rfl, (List.forall_mem_cons.mpr ⟨rfl, (List.forall_mem_cons.mpr ⟨rfl, (List.forall_mem_cons.mpr ⟨rfl, (List.forall_mem_cons.mpr ⟨rfl, fun _ h => absurd h List.not_mem_nil⟩)⟩)⟩)⟩)⟩)⟩) (b_X11_chain_140 mt hb n  k39 hk39 v1 v2 v3 v4 t0 (2 : Int32) mo s94.1 mr ms s94.2.1 dd wi hi gt s94.2.2.1 ta li sr s94.2.2.2 _ hE hF)
      · replace hE := fif hE c110
        refine aw_iconst (v := 1) dX11_chain_113 (by decide) ?_
        refine aw_goto (tgt := 140) dX11_chain_114 (by decide) ?_
        exact aw_lv _ (List.forall_mem_cons.mpr ⟨rfl, (List.forall_mem_cons.mpr ⟨rfl, (List.forall_mem_cons.mpr ⟨rfl, (List.forall_mem_cons.mpr ⟨rfl, (List.forall_mem_cons.mpr ⟨rfl, (List.forall_mem_cons.mpr ⟨rfl, fun _ h => absurd h List.not_mem_nil⟩)⟩)⟩)⟩)⟩)⟩) (b_X11_chain_140 mt hb n  k39 hk39 v1 v2 v3 v4 t0 (1 : Int32) mo s94.1 mr ms s94.2.1 dd wi hi gt s94.2.2.1 ta li sr s94.2.2.2 _ hE hF)
    · replace hE := fit hE c99
      refine aw_iconst (v := 0) dX11_chain_102 (by decide) ?_
      refine aw_goto (tgt := 140) dX11_chain_103 (by decide) ?_
      exact aw_lv _ (List.forall_mem_cons.mpr ⟨rfl, (List.forall_mem_cons.mpr ⟨rfl, (List.forall_mem_cons.mpr ⟨rfl, (List.forall_mem_cons.mpr ⟨rfl, (List.forall_mem_cons.mpr ⟨rfl, (List.forall_mem_cons.mpr ⟨rfl, fun _ h => absurd h List.not_mem_nil⟩)⟩)⟩)⟩)⟩)⟩) (b_X11_chain_140 mt hb n  k39 hk39 v1 v2 v3 v4 t0 (0 : Int32) mo s94.1 mr ms s94.2.1 dd wi hi gt s94.2.2.1 ta li sr s94.2.2.2 _ hE hF)
def F_X11_chain_82 (mt : A) (k39 : Int32 → Int32 → Int32 → Int32 → Int32 → MO → MW → MR → Nat → A → A → A → A → A → A → A → A → A → A → Out (MO × MW × MR × Nat × A × A × A × A × A × A × A × A × A × A) Int32) (v1 : Int32) (v2 : Int32) (v3 : Int32) (v4 : Int32) (v6 : Int32) (mo : MO) (mw : MW) (mr : MR) (ms : Nat) (mu : A) (dd : A) (wi : A) (hi : A) (gt : A) (sp : A) (ta : A) (li : A) (sr : A) (co : A) : Out (MO × MW × MR × Nat × A × A × A × A × A × A × A × A × A × A) Int32 := F_X11_chain_83 mt k39 v1 v2 v3 v4 v6 (0 : Int32) mo mw mr ms mu dd wi hi gt sp ta li sr co
set_option maxHeartbeats 1000000 in
set_option maxRecDepth 100000 in
theorem b_X11_chain_82 (mt : A) (hb : aH) (n : Nat)  (k39 : Int32 → Int32 → Int32 → Int32 → Int32 → MO → MW → MR → Nat → A → A → A → A → A → A → A → A → A → A → Out (MO × MW × MR × Nat × A × A × A × A × A × A × A × A × A × A) Int32) (hk39 : Q_X11_chain_39 mt hb n k39) : Q_X11_chain_82 mt hb n (F_X11_chain_82 mt k39) := by
  intro v1 v2 v3 v4 v6 mo mw mr ms mu dd wi hi gt sp ta li sr co res hE hF
  unfold F_X11_chain_82 at hE
  refine aw_iconst (v := 0) dX11_chain_82 (by decide) ?_
  exact aw_lv _ (List.forall_mem_cons.mpr ⟨rfl, (List.forall_mem_cons.mpr ⟨rfl, (List.forall_mem_cons.mpr ⟨rfl, (List.forall_mem_cons.mpr ⟨rfl, (List.forall_mem_cons.mpr ⟨rfl, (List.forall_mem_cons.mpr ⟨rfl, fun _ h => absurd h List.not_mem_nil⟩)⟩)⟩)⟩)⟩)⟩) (b_X11_chain_83 mt hb n  k39 hk39 v1 v2 v3 v4 v6 (0 : Int32) mo mw mr ms mu dd wi hi gt sp ta li sr co _ hE hF)
def F_X11_chain_39 (mt : A) (k39 : Int32 → Int32 → Int32 → Int32 → Int32 → MO → MW → MR → Nat → A → A → A → A → A → A → A → A → A → A → Out (MO × MW × MR × Nat × A × A × A × A × A × A × A × A × A × A) Int32) (v1 : Int32) (v2 : Int32) (v3 : Int32) (v4 : Int32) (v5 : Int32) (mo : MO) (mw : MW) (mr : MR) (ms : Nat) (mu : A) (dd : A) (wi : A) (hi : A) (gt : A) (sp : A) (ta : A) (li : A) (sr : A) (co : A) : Out (MO × MW × MR × Nat × A × A × A × A × A × A × A × A × A × A) Int32 := if v5 = 0 then (F_X11_chain_172 mt v4 mo mw mr ms mu dd wi hi gt sp ta li sr co) else (if v3 ≤ v4 then (F_X11_chain_172 mt v4 mo mw mr ms mu dd wi hi gt sp ta li sr co) else (if 17 < ((v2 >>> ((5 * v4) &&& 31)) &&& 31) then (F_X11_chain_82 mt k39 v1 v2 v3 v4 ((v2 >>> ((5 * v4) &&& 31)) &&& 31) mo mw mr ms mu dd wi hi gt sp ta li sr co) else (fon (F_X11_canHold v1 ((v2 >>> ((5 * v4) &&& 31)) &&& 31) dd wi hi sr) (fun z72 s72 => if z72 = 0 then (F_X11_chain_82 mt k39 v1 v2 v3 v4 ((v2 >>> ((5 * v4) &&& 31)) &&& 31) mo mw mr ms mu dd wi hi gt sp ta li s72 co) else (F_X11_chain_83 mt k39 v1 v2 v3 v4 ((v2 >>> ((5 * v4) &&& 31)) &&& 31) (1 : Int32) mo mw mr ms mu dd wi hi gt sp ta li s72 co)) (fun _ _ => fno))))
set_option maxHeartbeats 1000000 in
set_option maxRecDepth 100000 in
theorem b_X11_chain_39 (mt : A) (hb : aH) (n : Nat)  (k39 : Int32 → Int32 → Int32 → Int32 → Int32 → MO → MW → MR → Nat → A → A → A → A → A → A → A → A → A → A → Out (MO × MW × MR × Nat × A × A × A × A × A × A × A × A × A × A) Int32) (hk39 : Q_X11_chain_39 mt hb n k39) : Q_X11_chain_39 mt hb n (F_X11_chain_39 mt k39) := by
  intro v1 v2 v3 v4 v5 mo mw mr ms mu dd wi hi gt sp ta li sr co res hE hF
  unfold F_X11_chain_39 at hE
  refine aw_iload dX11_chain_39 rfl ?_
  refine aw_if_eq (tgt := 172) dX11_chain_41 (by decide) (fun c41 => ?_) (fun c41 => ?_)
  · replace hE := fit hE c41
    exact aw_lv _ (List.forall_mem_cons.mpr ⟨rfl, fun _ h => absurd h List.not_mem_nil⟩) (b_X11_chain_172 mt hb n   v4 mo mw mr ms mu dd wi hi gt sp ta li sr co _ hE hF)
  · replace hE := fif hE c41
    refine aw_iload dX11_chain_44 rfl ?_
    refine aw_iload_n dX11_chain_46 rfl ?_
    refine aw_icmp_ge (tgt := 172) dX11_chain_47 (by decide) (fun c47 => ?_) (fun c47 => ?_)
    · replace hE := fit hE c47
      exact aw_lv _ (List.forall_mem_cons.mpr ⟨rfl, fun _ h => absurd h List.not_mem_nil⟩) (b_X11_chain_172 mt hb n   v4 mo mw mr ms mu dd wi hi gt sp ta li sr co _ hE hF)
    · replace hE := fif hE c47
      refine aw_iload_n dX11_chain_50 rfl ?_
      refine aw_iconst (v := 5) dX11_chain_51 (by decide) ?_
      refine aw_iload dX11_chain_52 rfl ?_
      refine aw_imul dX11_chain_54 ?_
      refine aw_ishr dX11_chain_55 ?_
      refine aw_bipush (v := 31) dX11_chain_56 (by decide) ?_
      refine aw_iand dX11_chain_58 ?_
      refine aw_istore (lv2 := [(6, _), (0, _), (1, _), (2, _), (3, _), (4, _), (5, _)]) dX11_chain_59 (by decide) rfl ?_
      refine aw_iload dX11_chain_61 rfl ?_
      refine aw_bipush (v := 17) dX11_chain_63 (by decide) ?_
      refine aw_icmp_gt (tgt := 82) dX11_chain_65 (by decide) (fun c65 => ?_) (fun c65 => ?_)
      · replace hE := fit hE c65
        exact aw_lv _ (List.forall_mem_cons.mpr ⟨rfl, (List.forall_mem_cons.mpr ⟨rfl, (List.forall_mem_cons.mpr ⟨rfl, (List.forall_mem_cons.mpr ⟨rfl, (List.forall_mem_cons.mpr ⟨rfl, (List.forall_mem_cons.mpr ⟨rfl, fun _ h => absurd h List.not_mem_nil⟩)⟩)⟩)⟩)⟩)⟩) (b_X11_chain_82 mt hb n  k39 hk39 v1 v2 v3 v4 ((v2 >>> ((5 * v4) &&& 31)) &&& 31) mo mw mr ms mu dd wi hi gt sp ta li sr co _ hE hF)
      · replace hE := fif hE c65
        refine aw_aload_n dX11_chain_68 rfl ?_
        refine aw_iload_n dX11_chain_69 rfl ?_
        refine aw_iload dX11_chain_70 rfl ?_
        refine aw_callV dX11_chain_72 at_mod cvX11_328 rfl (kF_X11_canHold mo mw mr ms mt mu dd wi hi gt sp ta li sr co hb _  v1 ((v2 >>> ((5 * v4) &&& 31)) &&& 31) (fon_ne hE hF)) rfl (Nat.le_of_ble_eq_true rfl) (by decide) (by decide) (by decide) (by decide) (fun _ _ _ hf => False.elim hf) (fun r72 h72 n72 hp72 => ?_)
        obtain ⟨z72, s72, e72, rfl, rfl, rfl⟩ := hp72
        replace hE := fon_ok e72 hE
        refine aw_if_eq (tgt := 82) dX11_chain_75 (by decide) (fun c75 => ?_) (fun c75 => ?_)
        · replace hE := fit hE c75
          exact aw_lv _ (List.forall_mem_cons.mpr ⟨rfl, (List.forall_mem_cons.mpr ⟨rfl, (List.forall_mem_cons.mpr ⟨rfl, (List.forall_mem_cons.mpr ⟨rfl, (List.forall_mem_cons.mpr ⟨rfl, (List.forall_mem_cons.mpr ⟨rfl, fun _ h => absurd h List.not_mem_nil⟩)⟩)⟩)⟩)⟩)⟩) (b_X11_chain_82 mt hb n  k39 hk39 v1 v2 v3 v4 ((v2 >>> ((5 * v4) &&& 31)) &&& 31) mo mw mr ms mu dd wi hi gt sp ta li s72 co _ hE hF)
        · replace hE := fif hE c75
          refine aw_iconst (v := 1) dX11_chain_78 (by decide) ?_
          refine aw_goto (tgt := 83) dX11_chain_79 (by decide) ?_
          exact aw_lv _ (List.forall_mem_cons.mpr ⟨rfl, (List.forall_mem_cons.mpr ⟨rfl, (List.forall_mem_cons.mpr ⟨rfl, (List.forall_mem_cons.mpr ⟨rfl, (List.forall_mem_cons.mpr ⟨rfl, (List.forall_mem_cons.mpr ⟨rfl, fun _ h => absurd h List.not_mem_nil⟩)⟩)⟩)⟩)⟩)⟩) (b_X11_chain_83 mt hb n  k39 hk39 v1 v2 v3 v4 ((v2 >>> ((5 * v4) &&& 31)) &&& 31) (1 : Int32) mo mw mr ms mu dd wi hi gt sp ta li s72 co _ hE hF)
def F_X11_chain_31 (mt : A)  (mo : MO) (mw : MW) (mr : MR) (ms : Nat) (mu : A) (dd : A) (wi : A) (hi : A) (gt : A) (sp : A) (ta : A) (li : A) (sr : A) (co : A) : Out (MO × MW × MR × Nat × A × A × A × A × A × A × A × A × A × A) Int32 := fok ((-1) : Int32) (mo, mw, mr, ms, mu, dd, wi, hi, gt, sp, ta, li, sr, co)
set_option maxHeartbeats 1000000 in
set_option maxRecDepth 100000 in
theorem b_X11_chain_31 (mt : A) (hb : aH) (n : Nat)   : Q_X11_chain_31 mt hb n (F_X11_chain_31 mt) := by
  intro mo mw mr ms mu dd wi hi gt sp ta li sr co res hE hF
  unfold F_X11_chain_31 at hE
  refine aw_iconst (v := (-1)) dX11_chain_31 (by decide) ?_
  exact aw_iret dX11_chain_32 rfl (Nat.zero_le _) (Nat.zero_le _) (Nat.zero_le _) (Nat.zero_le _) ⟨_, _, hE.symm, rfl, rfl, rfl⟩
def F_X11_chain (a1 : Int32) (a2 : Int32) (a3 : Int32) (mo : MO) (mw : MW) (mr : MR) (ms : Nat) (mt : A) (mu : A) (dd : A) (wi : A) (hi : A) (gt : A) (sp : A) (ta : A) (li : A) (sr : A) (co : A) : Out (MO × MW × MR × Nat × A × A × A × A × A × A × A × A × A × A) Int32 := if (F_X11_isShelf a1) = 0 then (F_X11_chain_31 mt ((mo_taped mo), 0, (mo_tf mo), (mo_t1 mo), (mo_t2 mo), (mo_t3 mo), (mo_fp mo)) mw mr ms mu dd wi hi gt sp ta li sr co) else (if inb a1 4 then (if (wi (Int32.toNatClampNeg a1)) = 0 then (F_X11_chain_31 mt ((mo_taped mo), 0, (mo_tf mo), (mo_t1 mo), (mo_t2 mo), (mo_t3 mo), (mo_fp mo)) mw mr ms mu dd wi hi gt sp ta li sr co) else (if a3 < 0 then (F_X11_chain_31 mt ((mo_taped mo), 0, (mo_tf mo), (mo_t1 mo), (mo_t2 mo), (mo_t3 mo), (mo_fp mo)) mw mr ms mu dd wi hi gt sp ta li sr co) else (if a3 ≤ 6 then (lp (fun _ _ _ _ _ _ _ _ _ _ _ _ _ _ _ _ _ _ _ => fno) (F_X11_chain_39 mt) FU a1 a2 a3 (0 : Int32) (1 : Int32) ((mo_taped mo), 0, (mo_tf mo), (mo_t1 mo), (mo_t2 mo), (mo_t3 mo), (mo_fp mo)) mw mr ms mu dd wi hi gt sp ta li sr co) else (F_X11_chain_31 mt ((mo_taped mo), 0, (mo_tf mo), (mo_t1 mo), (mo_t2 mo), (mo_t3 mo), (mo_fp mo)) mw mr ms mu dd wi hi gt sp ta li sr co)))) else fno)
set_option maxHeartbeats 1000000 in
set_option maxRecDepth 100000 in
theorem kF_X11_chain (mo : MO) (mw : MW) (mr : MR) (ms : Nat) (mt : A) (mu : A) (dd : A) (wi : A) (hi : A) (gt : A) (sp : A) (ta : A) (li : A) (sr : A) (co : A) (hb : aH) (n : Nat)  (a1 : Int32) (a2 : Int32) (a3 : Int32) (hF : F_X11_chain a1 a2 a3 mo mw mr ms mt mu dd wi hi gt sp ta li sr co ≠ fno) : AM mX11_chain 8 [.ref 31, .int a1, .int a2, .int a3] (HM mo mw mr ms mt mu dd wi hi gt sp ta li sr co hb) n 0 0 0 0 (P_X11_chain mt hb n (F_X11_chain a1 a2 a3 mo mw mr ms mt mu dd wi hi gt sp ta li sr co)) (fun _ _ _ => False) := by
  generalize hE : F_X11_chain a1 a2 a3 mo mw mr ms mt mu dd wi hi gt sp ta li sr co = res at hF ⊢
  refine aw_of (by decide +kernel) rfl (Nat.le_of_ble_eq_true rfl) ?_
  unfold F_X11_chain at hE
  refine aw_aload_n dX11_chain_0 rfl ?_
  refine aw_iconst (v := 0) dX11_chain_1 (by decide) ?_
  refine aw_putf dX11_chain_2 ptX11_61_10 at_mod (Nat.le_of_ble_eq_true rfl) ⟨rfl, rfl⟩ ?_
  refine aw_eqh (h2 := HM ((mo_taped mo), 0, (mo_tf mo), (mo_t1 mo), (mo_t2 mo), (mo_t3 mo), (mo_fp mo)) mw mr ms mt mu dd wi hi gt sp ta li sr co hb) up_mod ?_
  refine aw_iload_n dX11_chain_5 rfl ?_
  refine aw_callS dX11_chain_6  csX11_245 rfl (kF_X11_isShelf _ _ a1) rfl (Nat.le_of_ble_eq_true rfl) (by decide) (by decide) (by decide) (by decide) (fun _ _ _ hf => False.elim hf) (fun r6 h6 n6 hp6 => ?_)
  obtain ⟨rfl, rfl, rfl⟩ := hp6
  refine aw_if_eq (tgt := 31) dX11_chain_9 (by decide) (fun c9 => ?_) (fun c9 => ?_)
  · replace hE := fit hE c9
    exact aw_lv _ (fun _ h => absurd h List.not_mem_nil) (b_X11_chain_31 mt hb n   ((mo_taped mo), 0, (mo_tf mo), (mo_t1 mo), (mo_t2 mo), (mo_t3 mo), (mo_fp mo)) mw mr ms mu dd wi hi gt sp ta li sr co _ hE hF)
  · replace hE := fif hE c9
    refine aw_aload_n dX11_chain_12 rfl ?_
    refine aw_getf (v := .ref 35) dX11_chain_13 flX11_21_10 at_mod rfl ?_
    refine aw_iload_n dX11_chain_16 rfl ?_
    obtain ⟨g17, hE⟩ := fgd hE hF
    refine aw_iald (f := wi) dX11_chain_17 at_mwide (vp_in_iff.mpr g17) ?_
    refine aw_if_eq (tgt := 31) dX11_chain_18 (by decide) (fun c18 => ?_) (fun c18 => ?_)
    · replace hE := fit hE c18
      exact aw_lv _ (fun _ h => absurd h List.not_mem_nil) (b_X11_chain_31 mt hb n   ((mo_taped mo), 0, (mo_tf mo), (mo_t1 mo), (mo_t2 mo), (mo_t3 mo), (mo_fp mo)) mw mr ms mu dd wi hi gt sp ta li sr co _ hE hF)
    · replace hE := fif hE c18
      refine aw_iload_n dX11_chain_21 rfl ?_
      refine aw_if_lt (tgt := 31) dX11_chain_22 (by decide) (fun c22 => ?_) (fun c22 => ?_)
      · replace hE := fit hE c22
        exact aw_lv _ (fun _ h => absurd h List.not_mem_nil) (b_X11_chain_31 mt hb n   ((mo_taped mo), 0, (mo_tf mo), (mo_t1 mo), (mo_t2 mo), (mo_t3 mo), (mo_fp mo)) mw mr ms mu dd wi hi gt sp ta li sr co _ hE hF)
      · replace hE := fif hE c22
        refine aw_iload_n dX11_chain_25 rfl ?_
        refine aw_bipush (v := 6) dX11_chain_26 (by decide) ?_
        refine aw_icmp_le (tgt := 33) dX11_chain_28 (by decide) (fun c28 => ?_) (fun c28 => ?_)
        · replace hE := fit hE c28
          refine aw_iconst (v := 0) dX11_chain_33 (by decide) ?_
          refine aw_istore (lv2 := [(4, _), (0, _), (1, _), (2, _), (3, _)]) dX11_chain_34 (by decide) rfl ?_
          refine aw_iconst (v := 1) dX11_chain_36 (by decide) ?_
          refine aw_istore (lv2 := [(5, _), (4, _), (0, _), (1, _), (2, _), (3, _)]) dX11_chain_37 (by decide) rfl ?_
          exact aw_lv _ (List.forall_mem_cons.mpr ⟨rfl, (List.forall_mem_cons.mpr ⟨rfl, (List.forall_mem_cons.mpr ⟨rfl, (List.forall_mem_cons.mpr ⟨rfl, (List.forall_mem_cons.mpr ⟨rfl, (List.forall_mem_cons.mpr ⟨rfl, fun _ h => absurd h List.not_mem_nil⟩)⟩)⟩)⟩)⟩)⟩) (lp_ind (Q_X11_chain_39 mt hb n) (fun _ _ _ _ _ _ _ _ _ _ _ _ _ _ _ _ _ _ _ res hq hF => (hF hq.symm).elim) (fun k hk => b_X11_chain_39 mt hb n   k hk) FU a1 a2 a3 (0 : Int32) (1 : Int32) ((mo_taped mo), 0, (mo_tf mo), (mo_t1 mo), (mo_t2 mo), (mo_t3 mo), (mo_fp mo)) mw mr ms mu dd wi hi gt sp ta li sr co _ hE hF)
        · replace hE := fif hE c28
          exact aw_lv _ (fun _ h => absurd h List.not_mem_nil) (b_X11_chain_31 mt hb n   ((mo_taped mo), 0, (mo_tf mo), (mo_t1 mo), (mo_t2 mo), (mo_t3 mo), (mo_fp mo)) mw mr ms mu dd wi hi gt sp ta li sr co _ hE hF)
