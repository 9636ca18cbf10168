def P_X11_writeMaps (mo : MO) (mr : MR) (ms : Nat) (mt : A) (dd : A) (wi : A) (hi : A) (gt : A) (sp : A) (ta : A) (li : A) (sr : A) (co : A) (hb : aH) (n : Nat) (res : Out (MW × A) Unit) : Option Value → aH → Nat → Prop := fun r1 h2 n2 => ∃ (a : Unit) (s : (MW × A)), res = fok a s ∧ r1 = none ∧ h2 = HM mo s.1 mr ms mt s.2 dd wi hi gt sp ta li sr co hb ∧ n = n2
abbrev Q_X11_writeMaps_75 (mo : MO) (mr : MR) (ms : Nat) (mt : A) (dd : A) (wi : A) (hi : A) (gt : A) (sp : A) (ta : A) (li : A) (sr : A) (co : A) (hb : aH) (n : Nat) (k : Int32 → Int32 → MW → A → Out (MW × A) Unit) : Prop := ∀ (v1 : Int32) (v2 : Int32) (mw : MW) (mu : A) (res : Out (MW × A) Unit), k v1 v2 mw mu = res → res ≠ fno → AW (fun _ _ => True) mX11_writeMaps (rmD 6 0 0) 0 0 (P_X11_writeMaps mo mr ms mt dd wi hi gt sp ta li sr co hb n res) (fun _ _ _ => False) 0 0 75 [(0, .ref 31), (1, .int v1), (2, .int v2)] [] (HM mo mw mr ms mt mu dd wi hi gt sp ta li sr co hb) n
abbrev Q_X11_writeMaps_77 (mo : MO) (mr : MR) (ms : Nat) (mt : A) (dd : A) (wi : A) (hi : A) (gt : A) (sp : A) (ta : A) (li : A) (sr : A) (co : A) (hb : aH) (n : Nat) (k : Int32 → Int32 → Int32 → MW → A → Out (MW × A) Unit) : Prop := ∀ (v1 : Int32) (v2 : Int32) (v3 : Int32) (mw : MW) (mu : A) (res : Out (MW × A) Unit), k v1 v2 v3 mw mu = res → res ≠ fno → AW (fun _ _ => True) mX11_writeMaps (rmD 6 0 0) 0 0 (P_X11_writeMaps mo mr ms mt dd wi hi gt sp ta li sr co hb n res) (fun _ _ _ => False) 0 0 77 [(0, .ref 31), (1, .int v1), (2, .int v2), (3, .int v3)] [] (HM mo mw mr ms mt mu dd wi hi gt sp ta li sr co hb) n
abbrev Q_X11_writeMaps_93 (mo : MO) (mr : MR) (ms : Nat) (mt : A) (dd : A) (wi : A) (hi : A) (gt : A) (sp : A) (ta : A) (li : A) (sr : A) (co : A) (hb : aH) (n : Nat) (k : Int32 → Int32 → Int32 → Int32 → Int32 → MW → A → Out (MW × A) Unit) : Prop := ∀ (v1 : Int32) (v2 : Int32) (v3 : Int32) (v4 : Int32) (v5 : Int32) (mw : MW) (mu : A) (res : Out (MW × A) Unit), k v1 v2 v3 v4 v5 mw mu = res → res ≠ fno → AW (fun _ _ => True) mX11_writeMaps (rmD 6 0 0) 0 0 (P_X11_writeMaps mo mr ms mt dd wi hi gt sp ta li sr co hb n res) (fun _ _ _ => False) 0 0 93 [(0, .ref 31), (1, .int v1), (2, .int v2), (3, .int v3), (4, .int v4), (5, .int v5)] [] (HM mo mw mr ms mt mu dd wi hi gt sp ta li sr co hb) n
abbrev Q_X11_writeMaps_132 (mo : MO) (mr : MR) (ms : Nat) (mt : A) (dd : A) (wi : A) (hi : A) (gt : A) (sp : A) (ta : A) (li : A) (sr : A) (co : A) (hb : aH) (n : Nat) (k : Int32 → Int32 → Int32 → Int32 → Int32 → Int32 → Int32 → MW → A → Out (MW × A) Unit) : Prop := ∀ (v1 : Int32) (v2 : Int32) (v3 : Int32) (v4 : Int32) (v5 : Int32) (v6 : Int32) (t0 : Int32) (mw : MW) (mu : A) (res : Out (MW × A) Unit), k v1 v2 v3 v4 v5 v6 t0 mw mu = res → res ≠ fno → AW (fun _ _ => True) mX11_writeMaps (rmD 6 0 0) 0 0 (P_X11_writeMaps mo mr ms mt dd wi hi gt sp ta li sr co hb n res) (fun _ _ _ => False) 0 0 132 [(0, .ref 31), (1, .int v1), (2, .int v2), (3, .int v3), (4, .int v4), (5, .int v5), (6, .int v6)] [.int t0] (HM mo mw mr ms mt mu dd wi hi gt sp ta li sr co hb) n
abbrev Q_X11_writeMaps_153 (mo : MO) (mr : MR) (ms : Nat) (mt : A) (dd : A) (wi : A) (hi : A) (gt : A) (sp : A) (ta : A) (li : A) (sr : A) (co : A) (hb : aH) (n : Nat) (k : Int32 → Int32 → Int32 → Int32 → Int32 → Int32 → Int32 → MW → A → Out (MW × A) Unit) : Prop := ∀ (v1 : Int32) (v2 : Int32) (v3 : Int32) (v4 : Int32) (v5 : Int32) (v7 : Int32) (t0 : Int32) (mw : MW) (mu : A) (res : Out (MW × A) Unit), k v1 v2 v3 v4 v5 v7 t0 mw mu = res → res ≠ fno → AW (fun _ _ => True) mX11_writeMaps (rmD 6 0 0) 0 0 (P_X11_writeMaps mo mr ms mt dd wi hi gt sp ta li sr co hb n res) (fun _ _ _ => False) 0 0 153 [(0, .ref 31), (1, .int v1), (2, .int v2), (3, .int v3), (4, .int v4), (5, .int v5), (7, .int v7)] [.int t0, .ref 31] (HM mo mw mr ms mt mu dd wi hi gt sp ta li sr co hb) n
abbrev Q_X11_writeMaps_171 (mo : MO) (mr : MR) (ms : Nat) (mt : A) (dd : A) (wi : A) (hi : A) (gt : A) (sp : A) (ta : A) (li : A) (sr : A) (co : A) (hb : aH) (n : Nat) (k : Int32 → Int32 → Int32 → Int32 → Int32 → MW → A → Out (MW × A) Unit) : Prop := ∀ (v1 : Int32) (v2 : Int32) (v3 : Int32) (v4 : Int32) (v5 : Int32) (mw : MW) (mu : A) (res : Out (MW × A) Unit), k v1 v2 v3 v4 v5 mw mu = res → res ≠ fno → AW (fun _ _ => True) mX11_writeMaps (rmD 6 0 0) 0 0 (P_X11_writeMaps mo mr ms mt dd wi hi gt sp ta li sr co hb n res) (fun _ _ _ => False) 0 0 171 [(0, .ref 31), (1, .int v1), (2, .int v2), (3, .int v3), (4, .int v4), (5, .int v5)] [] (HM mo mw mr ms mt mu dd wi hi gt sp ta li sr co hb) n
abbrev Q_X11_writeMaps_205 (mo : MO) (mr : MR) (ms : Nat) (mt : A) (dd : A) (wi : A) (hi : A) (gt : A) (sp : A) (ta : A) (li : A) (sr : A) (co : A) (hb : aH) (n : Nat) (k : Int32 → Int32 → Int32 → Int32 → Int32 → Int32 → MW → A → Out (MW × A) Unit) : Prop := ∀ (v1 : Int32) (v2 : Int32) (v3 : Int32) (v4 : Int32) (v5 : Int32) (v7 : Int32) (mw : MW) (mu : A) (res : Out (MW × A) Unit), k v1 v2 v3 v4 v5 v7 mw mu = res → res ≠ fno → AW (fun _ _ => True) mX11_writeMaps (rmD 6 0 0) 0 0 (P_X11_writeMaps mo mr ms mt dd wi hi gt sp ta li sr co hb n res) (fun _ _ _ => False) 0 0 205 [(0, .ref 31), (1, .int v1), (2, .int v2), (3, .int v3), (4, .int v4), (5, .int v5), (7, .int v7)] [] (HM mo mw mr ms mt mu dd wi hi gt sp ta li sr co hb) n
abbrev Q_X11_writeMaps_220 (mo : MO) (mr : MR) (ms : Nat) (mt : A) (dd : A) (wi : A) (hi : A) (gt : A) (sp : A) (ta : A) (li : A) (sr : A) (co : A) (hb : aH) (n : Nat) (k : Int32 → Int32 → Int32 → Int32 → Int32 → MW → A → Out (MW × A) Unit) : Prop := ∀ (v1 : Int32) (v2 : Int32) (v3 : Int32) (v4 : Int32) (v5 : Int32) (mw : MW) (mu : A) (res : Out (MW × A) Unit), k v1 v2 v3 v4 v5 mw mu = res → res ≠ fno → AW (fun _ _ => True) mX11_writeMaps (rmD 6 0 0) 0 0 (P_X11_writeMaps mo mr ms mt dd wi hi gt sp ta li sr co hb n res) (fun _ _ _ => False) 0 0 220 [(0, .ref 31), (1, .int v1), (2, .int v2), (3, .int v3), (4, .int v4), (5, .int v5)] [] (HM mo mw mr ms mt mu dd wi hi gt sp ta li sr co hb) n
abbrev Q_X11_writeMaps_349 (mo : MO) (mr : MR) (ms : Nat) (mt : A) (dd : A) (wi : A) (hi : A) (gt : A) (sp : A) (ta : A) (li : A) (sr : A) (co : A) (hb : aH) (n : Nat) (k : Int32 → Int32 → Int32 → Int32 → Int32 → MW → A → Out (MW × A) Unit) : Prop := ∀ (v1 : Int32) (v2 : Int32) (v3 : Int32) (v4 : Int32) (v5 : Int32) (mw : MW) (mu : A) (res : Out (MW × A) Unit), k v1 v2 v3 v4 v5 mw mu = res → res ≠ fno → AW (fun _ _ => True) mX11_writeMaps (rmD 6 0 0) 0 0 (P_X11_writeMaps mo mr ms mt dd wi hi gt sp ta li sr co hb n res) (fun _ _ _ => False) 0 0 349 [(0, .ref 31), (1, .int v1), (2, .int v2), (3, .int v3), (4, .int v4), (5, .int v5)] [] (HM mo mw mr ms mt mu dd wi hi gt sp ta li sr co hb) n
def F_X11_writeMaps_349 (dd : A) (wi : A) (hi : A) (k77 : Int32 → Int32 → Int32 → MW → A → Out (MW × A) Unit) (k93 : Int32 → Int32 → Int32 → Int32 → Int32 → MW → A → Out (MW × A) Unit) (v1 : Int32) (v2 : Int32) (v3 : Int32) (v4 : Int32) (v5 : Int32) (mw : MW) (mu : A) : Out (MW × A) Unit := k93 v1 v2 v3 v4 (v5 + 1) mw mu
set_option maxHeartbeats 1000000 in
set_option maxRecDepth 100000 in
theorem b_X11_writeMaps_349 (mo : MO) (mr : MR) (ms : Nat) (mt : A) (dd : A) (wi : A) (hi : A) (gt : A) (sp : A) (ta : A) (li : A) (sr : A) (co : A) (hb : aH) (n : Nat)  (k77 : Int32 → Int32 → Int32 → MW → A → Out (MW × A) Unit) (hk77 : Q_X11_writeMaps_77 mo mr ms mt dd wi hi gt sp ta li sr co hb n k77) (k93 : Int32 → Int32 → Int32 → Int32 → Int32 → MW → A → Out (MW × A) Unit) (hk93 : Q_X11_writeMaps_93 mo mr ms mt dd wi hi gt sp ta li sr co hb n k93) : Q_X11_writeMaps_349 mo mr ms mt dd wi hi gt sp ta li sr co hb n (F_X11_writeMaps_349 dd wi hi k77 k93) := by
  intro v1 v2 v3 v4 v5 mw mu res hE hF
  unfold F_X11_writeMaps_349 at hE
  refine aw_iinc (v := (v5 + 1)) (lv2 := [(5, _), (0, _), (1, _), (2, _), (3, _), (4, _)]) dX11_writeMaps_349 rfl (incE (by decide)) (by decide) rfl ?_
  refine aw_goto (tgt := 93) dX11_writeMaps_352 (by decide) ?_
  exact aw_lv _ (List.forall_mem_cons.mpr ⟨rfl, (List.forall_mem_cons.mpr ⟨rfl, (List.forall_mem_cons.mpr ⟨rfl, (List.forall_mem_cons.mpr ⟨rfl, (List.forall_mem_cons.mpr ⟨rfl, (List.forall_mem_cons.mpr ⟨rfl, fun _ h => absurd h List.not_mem_nil⟩)⟩)⟩)⟩)⟩)⟩) (hk93 v1 v2 v3 v4 (v5 + 1) mw mu _ hE hF)
def F_X11_writeMaps_220 (dd : A) (wi : A) (hi : A) (k77 : Int32 → Int32 → Int32 → MW → A → Out (MW × A) Unit) (k93 : Int32 → Int32 → Int32 → Int32 → Int32 → MW → A → Out (MW × A) Unit) (v1 : Int32) (v2 : Int32) (v3 : Int32) (v4 : Int32) (v5 : Int32) (mw : MW) (mu : A) : Out (MW × A) Unit := fon (F_X11_put_ v4 mw mu) (fun z223 s223 => F_X11_writeMaps_349 dd wi hi k77 k93 v1 v2 v3 (0 : Int32) v5 s223.1 s223.2) (fun _ _ => fno)
set_option maxHeartbeats 1000000 in
set_option maxRecDepth 100000 in
theorem b_X11_writeMaps_220 (mo : MO) (mr : MR) (ms : Nat) (mt : A) (dd : A) (wi : A) (hi : A) (gt : A) (sp : A) (ta : A) (li : A) (sr : A) (co : A) (hb : aH) (n : Nat)  (k77 : Int32 → Int32 → Int32 → MW → A → Out (MW × A) Unit) (hk77 : Q_X11_writeMaps_77 mo mr ms mt dd wi hi gt sp ta li sr co hb n k77) (k93 : Int32 → Int32 → Int32 → Int32 → Int32 → MW → A → Out (MW × A) Unit) (hk93 : Q_X11_writeMaps_93 mo mr ms mt dd wi hi gt sp ta li sr co hb n k93) : Q_X11_writeMaps_220 mo mr ms mt dd wi hi gt sp ta li sr co hb n (F_X11_writeMaps_220 dd wi hi k77 k93) := by
  intro v1 v2 v3 v4 v5 mw mu res hE hF
  unfold F_X11_writeMaps_220 at hE
  refine aw_aload_n dX11_writeMaps_220 rfl ?_
  refine aw_iload dX11_writeMaps_221 rfl ?_
  refine aw_callV dX11_writeMaps_223 at_mod cvX11_280 rfl (kF_X11_put_ mo mw mr ms mt mu dd wi hi gt sp ta li sr co hb _  v4 (fon_ne hE hF)) rfl (Nat.le_of_ble_eq_true rfl) (by decide) (by decide) (by decide) (by decide) (fun _ _ _ hf => False.elim hf) (fun r223 h223 n223 hp223 => ?_)
  obtain ⟨z223, s223, e223, rfl, rfl, rfl⟩ := hp223
  replace hE := fon_ok e223 hE
  refine aw_iconst (v := 0) dX11_writeMaps_226 (by decide) ?_
  refine aw_istore (lv2 := [(4, _), (0, _), (1, _), (2, _), (3, _), (5, _)]) dX11_writeMaps_227 (by decide) rfl ?_
  refine aw_goto (tgt := 349) dX11_writeMaps_229 (by decide) ?_
  exact aw_lv _ (List.forall_mem_cons.mpr ⟨rfl, (List.forall_mem_cons.mpr ⟨rfl, (List.forall_mem_cons.mpr ⟨rfl, (List.forall_mem_cons.mpr ⟨rfl, (List.forall_mem_cons.mpr ⟨rfl, (List.forall_mem_cons.mpr ⟨rfl, fun _ h => absurd h List.not_mem_nil⟩)⟩)⟩)⟩)⟩)⟩) (b_X11_writeMaps_349 mo mr ms mt dd wi hi gt sp ta li sr co hb n  k77 hk77 k93 hk93 v1 v2 v3 (0 : Int32) v5 s223.1 s223.2 _ hE hF)
def F_X11_writeMaps_205 (dd : A) (wi : A) (hi : A) (k77 : Int32 → Int32 → Int32 → MW → A → Out (MW × A) Unit) (k93 : Int32 → Int32 → Int32 → Int32 → Int32 → MW → A → Out (MW × A) Unit) (v1 : Int32) (v2 : Int32) (v3 : Int32) (v4 : Int32) (v5 : Int32) (v7 : Int32) (mw : MW) (mu : A) : Out (MW × A) Unit := if v7 = 0 then (if (v5 - v5 / 8 * 8) = 7 then (F_X11_writeMaps_220 dd wi hi k77 k93 v1 v2 v3 v4 v5 mw mu) else (F_X11_writeMaps_349 dd wi hi k77 k93 v1 v2 v3 v4 v5 mw mu)) else (F_X11_writeMaps_220 dd wi hi k77 k93 v1 v2 v3 v4 v5 mw mu)
set_option maxHeartbeats 1000000 in
set_option maxRecDepth 100000 in
theorem b_X11_writeMaps_205 (mo : MO) (mr : MR) (ms : Nat) (mt : A) (dd : A) (wi : A) (hi : A) (gt : A) (sp : A) (ta : A) (li : A) (sr : A) (co : A) (hb : aH) (n : Nat)  (k77 : Int32 → Int32 → Int32 → MW → A → Out (MW × A) Unit) (hk77 : Q_X11_writeMaps_77 mo mr ms mt dd wi hi gt sp ta li sr co hb n k77) (k93 : Int32 → Int32 → Int32 → Int32 → Int32 → MW → A → Out (MW × A) Unit) (hk93 : Q_X11_writeMaps_93 mo mr ms mt dd wi hi gt sp ta li sr co hb n k93) : Q_X11_writeMaps_205 mo mr ms mt dd wi hi gt sp ta li sr co hb n (F_X11_writeMaps_205 dd wi hi k77 k93) := by
  intro v1 v2 v3 v4 v5 v7 mw mu res hE hF
  unfold F_X11_writeMaps_205 at hE
  refine aw_iload dX11_writeMaps_205 rfl ?_
  refine aw_if_ne (tgt := 220) dX11_writeMaps_207 (by decide) (fun c207 => ?_) (fun c207 => ?_)
  · replace hE := fif hE c207
    exact aw_lv _ (List.forall_mem_cons.mpr ⟨rfl, (List.forall_mem_cons.mpr ⟨rfl, (List.forall_mem_cons.mpr ⟨rfl, (List.forall_mem_cons.mpr ⟨rfl, (List.forall_mem_cons.mpr ⟨rfl, (List.forall_mem_cons.mpr ⟨rfl, fun _ h => absurd h List.not_mem_nil⟩)⟩)⟩)⟩)⟩)⟩) (b_X11_writeMaps_220 mo mr ms mt dd wi hi gt sp ta li sr co hb n  k77 hk77 k93 hk93 v1 v2 v3 v4 v5 mw mu _ hE hF)
  · replace hE := fit hE c207
    refine aw_iload dX11_writeMaps_210 rfl ?_
    refine aw_bipush (v := 8) dX11_writeMaps_212 (by decide) ?_
    refine aw_irem dX11_writeMaps_214 (by decide) ?_
    refine aw_bipush (v := 7) dX11_writeMaps_215 (by decide) ?_
    refine aw_icmp_ne (tgt := 349) dX11_writeMaps_217 (by decide) (fun c217 => ?_) (fun c217 => ?_)
    · replace hE := fif hE c217
      exact aw_lv _ (List.forall_mem_cons.mpr ⟨rfl, (List.forall_mem_cons.mpr ⟨rfl, (List.forall_mem_cons.mpr ⟨rfl, (List.forall_mem_cons.mpr ⟨rfl, (List.forall_mem_cons.mpr ⟨rfl, (List.forall_mem_cons.mpr ⟨rfl, fun _ h => absurd h List.not_mem_nil⟩)⟩)⟩)⟩)⟩)⟩) (b_X11_writeMaps_349 mo mr ms mt dd wi hi gt sp ta li sr co hb n  k77 hk77 k93 hk93 v1 v2 v3 v4 v5 mw mu _ hE hF)
    · replace hE := fit hE c217
      exact aw_lv _ (List.forall_mem_cons.mpr ⟨rfl, (List.forall_mem_cons.mpr ⟨rfl, (List.forall_mem_cons.mpr ⟨rfl, (List.forall_mem_cons.mpr ⟨rfl, (List.forall_mem_cons.mpr ⟨rfl, (List.forall_mem_cons.mpr ⟨rfl, fun _ h => absurd h List.not_mem_nil⟩)⟩)⟩)⟩)⟩)⟩) (b_X11_writeMaps_220 mo mr ms mt dd wi hi gt sp ta li sr co hb n  k77 hk77 k93 hk93 v1 v2 v3 v4 v5 mw mu _ hE hF)
def F_X11_writeMaps_171 (dd : A) (wi : A) (hi : A) (k77 : Int32 → Int32 → Int32 → MW → A → Out (MW × A) Unit) (k93 : Int32 → Int32 → Int32 → Int32 → Int32 → MW → A → Out (MW × A) Unit) (v1 : Int32) (v2 : Int32) (v3 : Int32) (v4 : Int32) (v5 : Int32) (mw : MW) (mu : A) : Out (MW × A) Unit := fon (F_X11_put_ 10 mw mu) (fun z174 s174 => F_X11_writeMaps_349 dd wi hi k77 k93 v1 v2 v3 v4 v5 s174.1 s174.2) (fun _ _ => fno)
set_option maxHeartbeats 1000000 in
set_option maxRecDepth 100000 in
theorem b_X11_writeMaps_171 (mo : MO) (mr : MR) (ms : Nat) (mt : A) (dd : A) (wi : A) (hi : A) (gt : A) (sp : A) (ta : A) (li : A) (sr : A) (co : A) (hb : aH) (n : Nat)  (k77 : Int32 → Int32 → Int32 → MW → A → Out (MW × A) Unit) (hk77 : Q_X11_writeMaps_77 mo mr ms mt dd wi hi gt sp ta li sr co hb n k77) (k93 : Int32 → Int32 → Int32 → Int32 → Int32 → MW → A → Out (MW × A) Unit) (hk93 : Q_X11_writeMaps_93 mo mr ms mt dd wi hi gt sp ta li sr co hb n k93) : Q_X11_writeMaps_171 mo mr ms mt dd wi hi gt sp ta li sr co hb n (F_X11_writeMaps_171 dd wi hi k77 k93) := by
  intro v1 v2 v3 v4 v5 mw mu res hE hF
  unfold F_X11_writeMaps_171 at hE
  refine aw_aload_n dX11_writeMaps_171 rfl ?_
  refine aw_bipush (v := 10) dX11_writeMaps_172 (by decide) ?_
  refine aw_callV dX11_writeMaps_174 at_mod cvX11_280 rfl (kF_X11_put_ mo mw mr ms mt mu dd wi hi gt sp ta li sr co hb _  10 (fon_ne hE hF)) rfl (Nat.le_of_ble_eq_true rfl) (by decide) (by decide) (by decide) (by decide) (fun _ _ _ hf => False.elim hf) (fun r174 h174 n174 hp174 => ?_)
  obtain ⟨z174, s174, e174, rfl, rfl, rfl⟩ := hp174
  replace hE := fon_ok e174 hE
  refine aw_goto (tgt := 349) dX11_writeMaps_177 (by decide) ?_
  exact aw_lv _ (List.forall_mem_cons.mpr ⟨rfl, (List.forall_mem_cons.mpr ⟨rfl, (List.forall_mem_cons.mpr ⟨rfl, (List.forall_mem_cons.mpr ⟨rfl, (List.forall_mem_cons.mpr ⟨rfl, (List.forall_mem_cons.mpr ⟨rfl, fun _ h => absurd h List.not_mem_nil⟩)⟩)⟩)⟩)⟩)⟩) (b_X11_writeMaps_349 mo mr ms mt dd wi hi gt sp ta li sr co hb n  k77 hk77 k93 hk93 v1 v2 v3 v4 v5 s174.1 s174.2 _ hE hF)
def F_X11_writeMaps_153 (dd : A) (wi : A) (hi : A) (k77 : Int32 → Int32 → Int32 → MW → A → Out (MW × A) Unit) (k93 : Int32 → Int32 → Int32 → Int32 → Int32 → MW → A → Out (MW × A) Unit) (v1 : Int32) (v2 : Int32) (v3 : Int32) (v4 : Int32) (v5 : Int32) (v7 : Int32) (t0 : Int32) (mw : MW) (mu : A) : Out (MW × A) Unit := fon (F_X11_put_ t0 mw mu) (fun z153 s153 => if v7 = 0 then (if (v5 - v5 / 70 * 70) = 69 then (F_X11_writeMaps_171 dd wi hi k77 k93 v1 v2 v3 v4 v5 s153.1 s153.2) else (F_X11_writeMaps_349 dd wi hi k77 k93 v1 v2 v3 v4 v5 s153.1 s153.2)) else (F_X11_writeMaps_171 dd wi hi k77 k93 v1 v2 v3 v4 v5 s153.1 s153.2)) (fun _ _ => fno)
set_option maxHeartbeats 1000000 in
set_option maxRecDepth 100000 in
theorem b_X11_writeMaps_153 (mo : MO) (mr : MR) (ms : Nat) (mt : A) (dd : A) (wi : A) (hi : A) (gt : A) (sp : A) (ta : A) (li : A) (sr : A) (co : A) (hb : aH) (n : Nat)  (k77 : Int32 → Int32 → Int32 → MW → A → Out (MW × A) Unit) (hk77 : Q_X11_writeMaps_77 mo mr ms mt dd wi hi gt sp ta li sr co hb n k77) (k93 : Int32 → Int32 → Int32 → Int32 → Int32 → MW → A → Out (MW × A) Unit) (hk93 : Q_X11_writeMaps_93 mo mr ms mt dd wi hi gt sp ta li sr co hb n k93) : Q_X11_writeMaps_153 mo mr ms mt dd wi hi gt sp ta li sr co hb n (F_X11_writeMaps_153 dd wi hi k77 k93) := by
  intro v1 v2 v3 v4 v5 v7 t0 mw mu res hE hF
  unfold F_X11_writeMaps_153 at hE
  refine aw_callV dX11_writeMaps_153 at_mod cvX11_280 rfl (kF_X11_put_ mo mw mr ms mt mu dd wi hi gt sp ta li sr co hb _  t0 (fon_ne hE hF)) rfl (Nat.le_of_ble_eq_true rfl) (by decide) (by decide) (by decide) (by decide) (fun _ _ _ hf => False.elim hf) (fun r153 h153 n153 hp153 => ?_)
  obtain ⟨z153, s153, e153, rfl, rfl, rfl⟩ := hp153
  replace hE := fon_ok e153 hE
  refine aw_iload dX11_writeMaps_156 rfl ?_
  refine aw_if_ne (tgt := 171) dX11_writeMaps_158 (by decide) (fun c158 => ?_) (fun c158 => ?_)
  · replace hE := fif hE c158
    exact aw_lv _ (List.forall_mem_cons.mpr ⟨rfl, (List.forall_mem_cons.mpr ⟨rfl, (List.forall_mem_cons.mpr ⟨rfl, (List.forall_mem_cons.mpr ⟨rfl, (List.forall_mem_cons.mpr ⟨rfl, (List.forall_mem_cons.mpr ⟨rfl, fun _ h => absurd h List.not_mem_nil⟩)⟩)⟩)⟩)⟩)⟩) (b_X11_writeMaps_171 mo mr ms mt dd wi hi gt sp ta li sr co hb n  k77 hk77 k93 hk93 v1 v2 v3 v4 v5 s153.1 s153.2 _ hE hF)
  · replace hE := fit hE c158
    refine aw_iload dX11_writeMaps_161 rfl ?_
    refine aw_bipush (v := 70) dX11_writeMaps_163 (by decide) ?_
    refine aw_irem dX11_writeMaps_165 (by decide) ?_
    refine aw_bipush (v := 69) dX11_writeMaps_166 (by decide) ?_
    refine aw_icmp_ne (tgt := 349) dX11_writeMaps_168 (by decide) (fun c168 => ?_) (fun c168 => ?_)
    · replace hE := fif hE c168
      exact aw_lv _ (List.forall_mem_cons.mpr ⟨rfl, (List.forall_mem_cons.mpr ⟨rfl, (List.forall_mem_cons.mpr ⟨rfl, (List.forall_mem_cons.mpr ⟨rfl, (List.forall_mem_cons.mpr ⟨rfl, (List.forall_mem_cons.mpr ⟨rfl, fun _ h => absurd h List.not_mem_nil⟩)⟩)⟩)⟩)⟩)⟩) (b_X11_writeMaps_349 mo mr ms mt dd wi hi gt sp ta li sr co hb n  k77 hk77 k93 hk93 v1 v2 v3 v4 v5 s153.1 s153.2 _ hE hF)
    · replace hE := fit hE c168
      exact aw_lv _ (List.forall_mem_cons.mpr ⟨rfl, (List.forall_mem_cons.mpr ⟨rfl, (List.forall_mem_cons.mpr ⟨rfl, (List.forall_mem_cons.mpr ⟨rfl, (List.forall_mem_cons.mpr ⟨rfl, (List.forall_mem_cons.mpr ⟨rfl, fun _ h => absurd h List.not_mem_nil⟩)⟩)⟩)⟩)⟩)⟩) (b_X11_writeMaps_171 mo mr ms mt dd wi hi gt sp ta li sr co hb n  k77 hk77 k93 hk93 v1 v2 v3 v4 v5 s153.1 s153.2 _ hE hF)
def F_X11_writeMaps_132 (dd : A) (wi : A) (hi : A) (k77 : Int32 → Int32 → Int32 → MW → A → Out (MW × A) Unit) (k93 : Int32 → Int32 → Int32 → Int32 → Int32 → MW → A → Out (MW × A) Unit) (v1 : Int32) (v2 : Int32) (v3 : Int32) (v4 : Int32) (v5 : Int32) (v6 : Int32) (t0 : Int32) (mw : MW) (mu : A) : Out (MW × A) Unit := if v2 = 1 then (if v6 = (-1) then (F_X11_writeMaps_153 dd wi hi k77 k93 v1 v2 v3 v4 v5 t0 (48 : Int32) mw mu) else (F_X11_writeMaps_153 dd wi hi k77 k93 v1 v2 v3 v4 v5 t0 (49 : Int32) mw mu)) else (if v2 = 4 then (if v6 = (-1) then (F_X11_writeMaps_205 dd wi hi k77 k93 v1 v2 v3 v4 v5 t0 mw mu) else (F_X11_writeMaps_205 dd wi hi k77 k93 v1 v2 v3 (v4 ||| (128 >>> ((v5 - v5 / 8 * 8) &&& 31))) v5 t0 mw mu)) else (if v2 = 2 then (fon (F_X11_putNumber_4 (us v6 24) mw mu) (fun z243 s243 => fon (F_X11_put_ 10 s243.1 s243.2) (fun z249 s249 => F_X11_writeMaps_349 dd wi hi k77 k93 v1 v2 v3 v4 v5 s249.1 s249.2) (fun _ _ => fno)) (fun _ _ => fno)) else (if v2 = 3 then (fon (F_X11_putNumber_4 (us v6 24) mw mu) (fun z266 s266 => fon (F_X11_put_ 32 s266.1 s266.2) (fun z272 s272 => fon (F_X11_putNumber_4 ((v6 >>> ((16 : Int32) &&& 31)) &&& 255) s272.1 s272.2) (fun z285 s285 => fon (F_X11_put_ 32 s285.1 s285.2) (fun z291 s291 => fon (F_X11_putNumber_4 ((v6 >>> ((8 : Int32) &&& 31)) &&& 255) s291.1 s291.2) (fun z304 s304 => fon (F_X11_put_ 10 s304.1 s304.2) (fun z310 s310 => F_X11_writeMaps_349 dd wi hi k77 k93 v1 v2 v3 v4 v5 s310.1 s310.2) (fun _ _ => fno)) (fun _ _ => fno)) (fun _ _ => fno)) (fun _ _ => fno)) (fun _ _ => fno)) (fun _ _ => fno)) else (fon (F_X11_put_ (v6 >>> ((24 : Int32) &&& 31)) mw mu) (fun z322 s322 => if v2 = 6 then (fon (F_X11_put_ (v6 >>> ((16 : Int32) &&& 31)) s322.1 s322.2) (fun z337 s337 => fon (F_X11_put_ (v6 >>> ((8 : Int32) &&& 31)) s337.1 s337.2) (fun z346 s346 => F_X11_writeMaps_349 dd wi hi k77 k93 v1 v2 v3 v4 v5 s346.1 s346.2) (fun _ _ => fno)) (fun _ _ => fno)) else (F_X11_writeMaps_349 dd wi hi k77 k93 v1 v2 v3 v4 v5 s322.1 s322.2)) (fun _ _ => fno)))))
set_option maxHeartbeats 1000000 in
set_option maxRecDepth 100000 in
theorem b_X11_writeMaps_132 (mo : MO) (mr : MR) (ms : Nat) (mt : A) (dd : A) (wi : A) (hi : A) (gt : A) (sp : A) (ta : A) (li : A) (sr : A) (co : A) (hb : aH) (n : Nat)  (k77 : Int32 → Int32 → Int32 → MW → A → Out (MW × A) Unit) (hk77 : Q_X11_writeMaps_77 mo mr ms mt dd wi hi gt sp ta li sr co hb n k77) (k93 : Int32 → Int32 → Int32 → Int32 → Int32 → MW → A → Out (MW × A) Unit) (hk93 : Q_X11_writeMaps_93 mo mr ms mt dd wi hi gt sp ta li sr co hb n k93) : Q_X11_writeMaps_132 mo mr ms mt dd wi hi gt sp ta li sr co hb n (F_X11_writeMaps_132 dd wi hi k77 k93) := by
  intro v1 v2 v3 v4 v5 v6 t0 mw mu res hE hF
  unfold F_X11_writeMaps_132 at hE
  refine aw_istore (lv2 := [(7, _), (0, _), (1, _), (2, _), (3, _), (4, _), (5, _), (6, _)]) dX11_writeMaps_132 (by decide) rfl ?_
  refine aw_iload_n dX11_writeMaps_134 rfl ?_
  refine aw_iconst (v := 1) dX11_writeMaps_135 (by decide) ?_
  refine aw_icmp_ne (tgt := 180) dX11_writeMaps_136 (by decide) (fun c136 => ?_) (fun c136 => ?_)
  · replace hE := fif hE c136
    refine aw_iload_n dX11_writeMaps_180 rfl ?_
    refine aw_iconst (v := 4) dX11_writeMaps_181 (by decide) ?_
    refine aw_icmp_ne (tgt := 232) dX11_writeMaps_182 (by decide) (fun c182 => ?_) (fun c182 => ?_)
    · replace hE := fif hE c182
      refine aw_iload_n dX11_writeMaps_232 rfl ?_
      refine aw_iconst (v := 2) dX11_writeMaps_233 (by decide) ?_
      refine aw_icmp_ne (tgt := 255) dX11_writeMaps_234 (by decide) (fun c234 => ?_) (fun c234 => ?_)
      · replace hE := fif hE c234
        refine aw_iload_n dX11_writeMaps_255 rfl ?_
        refine aw_iconst (v := 3) dX11_writeMaps_256 (by decide) ?_
        refine aw_icmp_ne (tgt := 316) dX11_writeMaps_257 (by decide) (fun c257 => ?_) (fun c257 => ?_)
        · replace hE := fif hE c257
          refine aw_aload_n dX11_writeMaps_316 rfl ?_
          refine aw_iload dX11_writeMaps_317 rfl ?_
          refine aw_bipush (v := 24) dX11_writeMaps_319 (by decide) ?_
          refine aw_ishr dX11_writeMaps_321 ?_
          refine aw_callV dX11_writeMaps_322 at_mod cvX11_280 rfl (kF_X11_put_ mo mw mr ms mt mu dd wi hi gt sp ta li sr co hb _  (v6 >>> ((24 : Int32) &&& 31)) (fon_ne hE hF)) rfl (Nat.le_of_ble_eq_true rfl) (by decide) (by decide) (by decide) (by decide) (fun _ _ _ hf => False.elim hf) (fun r322 h322 n322 hp322 => ?_)
          obtain ⟨z322, s322, e322, rfl, rfl, rfl⟩ := hp322
          replace hE := fon_ok e322 hE
          refine aw_iload_n dX11_writeMaps_325 rfl ?_
          refine aw_bipush (v := 6) dX11_writeMaps_326 (by decide) ?_
          refine aw_icmp_ne (tgt := 349) dX11_writeMaps_328 (by decide) (fun c328 => ?_) (fun c328 => ?_)
          · replace hE := fif hE c328
            exact aw_lv _ (List.forall_mem_cons.mpr ⟨rfl, (List.forall_mem_cons.mpr ⟨rfl, (List.forall_mem_cons.mpr ⟨rfl, (List.forall_mem_cons.mpr ⟨rfl, (List.forall_mem_cons.mpr ⟨rfl, (List.forall_mem_cons.mpr ⟨rfl, fun _ h => absurd h List.not_mem_nil⟩)⟩)⟩)⟩)⟩)⟩) (b_X11_writeMaps_349 mo mr ms mt dd wi hi gt sp ta li sr co hb n  k77 hk77 k93 hk93 v1 v2 v3 v4 v5 s322.1 s322.2 _ hE hF)
          · replace hE := fit hE c328
            refine aw_aload_n dX11_writeMaps_331 rfl ?_
            refine aw_iload dX11_writeMaps_332 rfl ?_
            refine aw_bipush (v := 16) dX11_writeMaps_334 (by decide) ?_
            refine aw_ishr dX11_writeMaps_336 ?_
            refine aw_callV dX11_writeMaps_337 at_mod cvX11_280 rfl (kF_X11_put_ mo s322.1 mr ms mt s322.2 dd wi hi gt sp ta li sr co hb _  (v6 >>> ((16 : Int32) &&& 31)) (fon_ne hE hF)) rfl (Nat.le_of_ble_eq_true rfl) (by decide) (by decide) (by decide) (by decide) (fun _ _ _ hf => False.elim hf) (fun r337 h337 n337 hp337 => ?_)
            obtain ⟨z337, s337, e337, rfl, rfl, rfl⟩ := hp337
            replace hE := fon_ok e337 hE
            refine aw_aload_n dX11_writeMaps_340 rfl ?_
            refine aw_iload dX11_writeMaps_341 rfl ?_
            refine aw_bipush (v := 8) dX11_writeMaps_343 (by decide) ?_
            refine aw_ishr dX11_writeMaps_345 ?_
            refine aw_callV dX11_writeMaps_346 at_mod cvX11_280 rfl (kF_X11_put_ mo s337.1 mr ms mt s337.2 dd wi hi gt sp ta li sr co hb _  (v6 >>> ((8 : Int32) &&& 31)) (fon_ne hE hF)) rfl (Nat.le_of_ble_eq_true rfl) (by decide) (by decide) (by decide) (by decide) (fun _ _ _ hf => False.elim hf) (fun r346 h346 n346 hp346 => ?_)
            obtain ⟨z346, s346, e346, rfl, rfl, rfl⟩ := hp346
            replace hE := fon_ok e346 hE
            exact aw_lv _ (List.forall_mem_cons.mpr ⟨rfl, (List.forall_mem_cons.mpr ⟨rfl, (List.forall_mem_cons.mpr ⟨rfl, (List.forall_mem_cons.mpr ⟨rfl, (List.forall_mem_cons.mpr ⟨rfl, (List.forall_mem_cons.mpr ⟨rfl, fun _ h => absurd h List.not_mem_nil⟩)⟩)⟩)⟩)⟩)⟩) (b_X11_writeMaps_349 mo mr ms mt dd wi hi gt sp ta li sr co hb n  k77 hk77 k93 hk93 v1 v2 v3 v4 v5 s346.1 s346.2 _ hE hF)
        · replace hE := fit hE c257
          refine aw_aload_n dX11_writeMaps_260 rfl ?_
          refine aw_iload dX11_writeMaps_261 rfl ?_
          refine aw_bipush (v := 24) dX11_writeMaps_263 (by decide) ?_
          refine aw_iushr dX11_writeMaps_265 ?_
          refine aw_callV dX11_writeMaps_266 at_mod cvX11_282 rfl (kF_X11_putNumber_4 mo mw mr ms mt mu dd wi hi gt sp ta li sr co hb _  (us v6 24) (fon_ne hE hF)) rfl (Nat.le_of_ble_eq_true rfl) (by decide) (by decide) (by decide) (by decide) (fun _ _ _ hf => False.elim hf) (fun r266 h266 n266 hp266 => ?_)
          obtain ⟨z266, s266, e266, rfl, rfl, rfl⟩ := hp266
          replace hE := fon_ok e266 hE
          refine aw_aload_n dX11_writeMaps_269 rfl ?_
          refine aw_bipush (v := 32) dX11_writeMaps_270 (by decide) ?_
          refine aw_callV dX11_writeMaps_272 at_mod cvX11_280 rfl (kF_X11_put_ mo s266.1 mr ms mt s266.2 dd wi hi gt sp ta li sr co hb _  32 (fon_ne hE hF)) rfl (Nat.le_of_ble_eq_true rfl) (by decide) (by decide) (by decide) (by decide) (fun _ _ _ hf => False.elim hf) (fun r272 h272 n272 hp272 => ?_)
          obtain ⟨z272, s272, e272, rfl, rfl, rfl⟩ := hp272
          replace hE := fon_ok e272 hE
          refine aw_aload_n dX11_writeMaps_275 rfl ?_
          refine aw_iload dX11_writeMaps_276 rfl ?_
          refine aw_bipush (v := 16) dX11_writeMaps_278 (by decide) ?_
          refine aw_ishr dX11_writeMaps_280 ?_
          refine aw_sipush (v := 255) dX11_writeMaps_281 (by decide) ?_
          refine aw_iand dX11_writeMaps_284 ?_
          refine aw_callV dX11_writeMaps_285 at_mod cvX11_282 rfl (kF_X11_putNumber_4 mo s272.1 mr ms mt s272.2 dd wi hi gt sp ta li sr co hb _  ((v6 >>> ((16 : Int32) &&& 31)) &&& 255) (fon_ne hE hF)) rfl (Nat.le_of_ble_eq_true rfl) (by decide) (by decide) (by decide) (by decide) (fun _ _ _ hf => False.elim hf) (fun r285 h285 n285 hp285 => ?_)
          obtain ⟨z285, s285, e285, rfl, rfl, rfl⟩ := hp285
          replace hE := fon_ok e285 hE
          refine aw_aload_n dX11_writeMaps_288 rfl ?_
          refine aw_bipush (v := 32) dX11_writeMaps_289 (by decide) ?_
          refine aw_callV dX11_writeMaps_291 at_mod cvX11_280 rfl (kF_X11_put_ mo s285.1 mr ms mt s285.2 dd wi hi gt sp ta li sr co hb _  32 (fon_ne hE hF)) rfl (Nat.le_of_ble_eq_true rfl) (by decide) (by decide) (by decide) (by decide) (fun _ _ _ hf => False.elim hf) (fun r291 h291 n291 hp291 => ?_)
          obtain ⟨z291, s291, e291, rfl, rfl, rfl⟩ := hp291
          replace hE := fon_ok e291 hE
          refine aw_aload_n dX11_writeMaps_294 rfl ?_
          refine aw_iload dX11_writeMaps_295 rfl ?_
          refine aw_bipush (v := 8) dX11_writeMaps_297 (by decide) ?_
          refine aw_ishr dX11_writeMaps_299 ?_
          refine aw_sipush (v := 255) dX11_writeMaps_300 (by decide) ?_
          refine aw_iand dX11_writeMaps_303 ?_
          refine aw_callV dX11_writeMaps_304 at_mod cvX11_282 rfl (kF_X11_putNumber_4 mo s291.1 mr ms mt s291.2 dd wi hi gt sp ta li sr co hb _  ((v6 >>> ((8 : Int32) &&& 31)) &&& 255) (fon_ne hE hF)) rfl (Nat.le_of_ble_eq_true rfl) (by decide) (by decide) (by decide) (by decide) (fun _ _ _ hf => False.elim hf) (fun r304 h304 n304 hp304 => ?_)
          obtain ⟨z304, s304, e304, rfl, rfl, rfl⟩ := hp304
          replace hE := fon_ok e304 hE
          refine aw_aload_n dX11_writeMaps_307 rfl ?_
          refine aw_bipush (v := 10) dX11_writeMaps_308 (by decide) ?_
          refine aw_callV dX11_writeMaps_310 at_mod cvX11_280 rfl (kF_X11_put_ mo s304.1 mr ms mt s304.2 dd wi hi gt sp ta li sr co hb _  10 (fon_ne hE hF)) rfl (Nat.le_of_ble_eq_true rfl) (by decide) (by decide) (by decide) (by decide) (fun _ _ _ hf => False.elim hf) (fun r310 h310 n310 hp310 => ?_)
          obtain ⟨z310, s310, e310, rfl, rfl, rfl⟩ := hp310
          replace hE := fon_ok e310 hE
          refine aw_goto (tgt := 349) dX11_writeMaps_313 (by decide) ?_
          exact aw_lv _ (List.forall_mem_cons.mpr ⟨rfl, (List.forall_mem_cons.mpr ⟨rfl, (List.forall_mem_cons.mpr ⟨rfl, (List.forall_mem_cons.mpr ⟨rfl, (List.forall_mem_cons.mpr ⟨rfl, (List.forall_mem_cons.mpr ⟨rfl, fun _ h => absurd h List.not_mem_nil⟩)⟩)⟩)⟩)⟩)⟩) (b_X11_writeMaps_349 mo mr ms mt dd wi hi gt sp ta li sr co hb n  k77 hk77 k93 hk93 v1 v2 v3 v4 v5 s310.1 s310.2 _ hE hF)
      · replace hE := fit hE c234
        refine aw_aload_n dX11_writeMaps_237 rfl ?_
        refine aw_iload dX11_writeMaps_238 rfl ?_
        refine aw_bipush (v := 24) dX11_writeMaps_240 (by decide) ?_
        refine aw_iushr dX11_writeMaps_242 ?_
        refine aw_callV dX11_writeMaps_243 at_mod cvX11_282 rfl (kF_X11_putNumber_4 mo mw mr ms mt mu dd wi hi gt sp ta li sr co hb _  (us v6 24) (fon_ne hE hF)) rfl (Nat.le_of_ble_eq_true rfl) (by decide) (by decide) (by decide) (by decide) (fun _ _ _ hf => False.elim hf) (fun r243 h243 n243 hp243 => ?_)
        obtain ⟨z243, s243, e243, rfl, rfl, rfl⟩ := hp243
        replace hE := fon_ok e243 hE
        refine aw_aload_n dX11_writeMaps_246 rfl ?_
        refine aw_bipush (v := 10) dX11_writeMaps_247 (by decide) ?_
        refine aw_callV dX11_writeMaps_249 at_mod cvX11_280 rfl (kF_X11_put_ mo s243.1 mr ms mt s243.2 dd wi hi gt sp ta li sr co hb _  10 (fon_ne hE hF)) rfl (Nat.le_of_ble_eq_true rfl) (by decide) (by decide) (by decide) (by decide) (fun _ _ _ hf => False.elim hf) (fun r249 h249 n249 hp249 => ?_)
        obtain ⟨z249, s249, e249, rfl, rfl, rfl⟩ := hp249
        replace hE := fon_ok e249 hE
        refine aw_goto (tgt := 349) dX11_writeMaps_252 (by decide) ?_
        exact aw_lv _ (List.forall_mem_cons.mpr ⟨rfl, (List.forall_mem_cons.mpr ⟨rfl, (List.forall_mem_cons.mpr ⟨rfl, (List.forall_mem_cons.mpr ⟨rfl, (List.forall_mem_cons.mpr ⟨rfl, (List.forall_mem_cons.mpr ⟨rfl, fun _ h => absurd h List.not_mem_nil⟩)⟩)⟩)⟩)⟩)⟩) (b_X11_writeMaps_349 mo mr ms mt dd wi hi gt sp ta li sr co hb n  k77 hk77 k93 hk93 v1 v2 v3 v4 v5 s249.1 s249.2 _ hE hF)
    · replace hE := fit hE c182
      refine aw_iload dX11_writeMaps_185 rfl ?_
      refine aw_iconst (v := (-1)) dX11_writeMaps_187 (by decide) ?_
      refine aw_icmp_eq (tgt := 205) dX11_writeMaps_188 (by decide) (fun c188 => ?_) (fun c188 => ?_)
      · replace hE := fit hE c188
        exact aw_lv _ (List.forall_mem_cons.mpr ⟨rfl, (List.forall_mem_cons.mpr ⟨rfl, (List.forall_mem_cons.mpr ⟨rfl, (List.forall_mem_cons.mpr ⟨rfl, (List.forall_mem_cons.mpr ⟨rfl, (List.forall_mem_cons.mpr ⟨rfl, (List.forall_mem_cons.mpr ⟨rfl, fun _ h => absurd h List.not_mem_nil⟩)⟩)⟩)⟩)⟩)⟩)⟩) (b_X11_writeMaps_205 mo mr ms mt dd wi hi gt sp ta li sr co hb n  k77 hk77 k93 hk93 v1 v2 v3 v4 v5 t0 mw mu _ hE hF)
      · replace hE := fif hE c188
        refine aw_iload dX11_writeMaps_191 rfl ?_
        refine aw_sipush (v := 128) dX11_writeMaps_193 (by decide) ?_
        refine aw_iload dX11_writeMaps_196 rfl ?_
        refine aw_bipush (v := 8) dX11_writeMaps_198 (by decide) ?_
        refine aw_irem dX11_writeMaps_200 (by decide) ?_
        refine aw_ishr dX11_writeMaps_201 ?_
        refine aw_ior dX11_writeMaps_202 ?_
        refine aw_istore (lv2 := [(4, _), (7, _), (0, _), (1, _), (2, _), (3, _), (5, _), (6, _)]) dX11_writeMaps_203 (by decide) rfl ?_
        exact aw_lv _ (List.forall_mem_cons.mpr ⟨rfl, (List.forall_mem_cons.mpr ⟨rfl, (List.forall_mem_cons.mpr ⟨rfl, (List.forall_mem_cons.mpr ⟨rfl, (List.forall_mem_cons.mpr ⟨rfl, (List.forall_mem_cons.mpr ⟨rfl, (List.forall_mem_cons.mpr ⟨rfl, fun _ h => absurd h List.not_mem_nil⟩)⟩)⟩)⟩)⟩)⟩)⟩) (b_X11_writeMaps_205 mo mr ms mt dd wi hi gt sp ta li sr co hb n  k77 hk77 k93 hk93 v1 v2 v3 (v4 ||| (128 >>> ((v5 - v5 / 8 * 8) &&& 31))) v5 t0 mw mu _ hE hF)
  · replace hE := fit hE c136
    refine aw_aload_n dX11_writeMaps_139 rfl ?_
    refine aw_iload dX11_writeMaps_140 rfl ?_
    refine aw_iconst (v := (-1)) dX11_writeMaps_142 (by decide) ?_
    refine aw_icmp_ne (tgt := 151) dX11_writeMaps_143 (by decide) (fun c143 => ?_) (fun c143 => ?_)
    · replace hE := fif hE c143
      refine aw_bipush (v := 49) dX11_writeMaps_151 (by decide) ?_
      exact aw_lv _ (List.forall_mem_cons.mpr ⟨rfl, (List.forall_mem_cons.mpr ⟨rfl, (List.forall_mem_cons.mpr ⟨rfl, (List.forall_mem_cons.mpr ⟨rfl, (List.forall_mem_cons.mpr ⟨rfl, (List.forall_mem_cons.mpr ⟨rfl, (List.forall_mem_cons.mpr ⟨rfl, fun _ h => absurd h List.not_mem_nil⟩)⟩)⟩)⟩)⟩)⟩)⟩) (b_X11_writeMaps_153 mo mr ms mt dd wi hi gt sp ta li sr co hb n  k77 hk77 k93 hk93 v1 v2 v3 v4 v5 t0 (49 : Int32) mw mu _ hE hF)
    · replace hE := fit hE c143
      refine aw_bipush (v := 48) dX11_writeMaps_146 (by decide) ?_
      refine aw_goto (tgt := 153) dX11_writeMaps_148 (by decide) ?_
      exact aw_lv _ (List.forall_mem_cons.mpr ⟨rfl, (List.forall_mem_cons.mpr ⟨rfl, (List.forall_mem_cons.mpr ⟨rfl, (List.forall_mem_cons.mpr ⟨rfl, (List.forall_mem_cons.mpr ⟨rfl, (List.forall_mem_cons.mpr ⟨rfl, (List.forall_mem_cons.mpr ⟨rfl, fun _ h => absurd h List.not_mem_nil⟩)⟩)⟩)⟩)⟩)⟩)⟩) (b_X11_writeMaps_153 mo mr ms mt dd wi hi gt sp ta li sr co hb n  k77 hk77 k93 hk93 v1 v2 v3 v4 v5 t0 (48 : Int32) mw mu _ hE hF)
def F_X11_writeMaps_93 (dd : A) (wi : A) (hi : A) (k77 : Int32 → Int32 → Int32 → MW → A → Out (MW × A) Unit) (k93 : Int32 → Int32 → Int32 → Int32 → Int32 → MW → A → Out (MW × A) Unit) (v1 : Int32) (v2 : Int32) (v3 : Int32) (v4 : Int32) (v5 : Int32) (mw : MW) (mu : A) : Out (MW × A) Unit := if inb v1 4 then (if (wi (Int32.toNatClampNeg v1)) ≤ v5 then (k77 v1 v2 (v3 + 1) mw mu) else (fon (F_X11_at v1 v5 v3 dd wi) (fun z109 s109 => if inb v1 4 then (if v5 = ((wi (Int32.toNatClampNeg v1)) - 1) then (F_X11_writeMaps_132 dd wi hi k77 k93 v1 v2 v3 v4 v5 z109 (1 : Int32) mw mu) else (F_X11_writeMaps_132 dd wi hi k77 k93 v1 v2 v3 v4 v5 z109 (0 : Int32) mw mu)) else fno) (fun _ _ => fno))) else fno
set_option maxHeartbeats 1000000 in
set_option maxRecDepth 100000 in
theorem b_X11_writeMaps_93 (mo : MO) (mr : MR) (ms : Nat) (mt : A) (dd : A) (wi : A) (hi : A) (gt : A) (sp : A) (ta : A) (li : A) (sr : A) (co : A) (hb : aH) (n : Nat)  (k77 : Int32 → Int32 → Int32 → MW → A → Out (MW × A) Unit) (hk77 : Q_X11_writeMaps_77 mo mr ms mt dd wi hi gt sp ta li sr co hb n k77) (k93 : Int32 → Int32 → Int32 → Int32 → Int32 → MW → A → Out (MW × A) Unit) (hk93 : Q_X11_writeMaps_93 mo mr ms mt dd wi hi gt sp ta li sr co hb n k93) : Q_X11_writeMaps_93 mo mr ms mt dd wi hi gt sp ta li sr co hb n (F_X11_writeMaps_93 dd wi hi k77 k93) := by
  intro v1 v2 v3 v4 v5 mw mu res hE hF
  unfold F_X11_writeMaps_93 at hE
  refine aw_iload dX11_writeMaps_93 rfl ?_
  refine aw_aload_n dX11_writeMaps_95 rfl ?_
  refine aw_getf (v := .ref 35) dX11_writeMaps_96 flX11_21_10 at_mod rfl ?_
  refine aw_iload_n dX11_writeMaps_99 rfl ?_
  obtain ⟨g100, hE⟩ := fgd hE hF
  refine aw_iald (f := wi) dX11_writeMaps_100 at_mwide (vp_in_iff.mpr g100) ?_
  refine aw_icmp_ge (tgt := 355) dX11_writeMaps_101 (by decide) (fun c101 => ?_) (fun c101 => ?_)
  · replace hE := fit hE c101
    refine aw_iinc (v := (v3 + 1)) (lv2 := [(3, _), (0, _), (1, _), (2, _), (4, _), (5, _)]) dX11_writeMaps_355 rfl (incE (by decide)) (by decide) rfl ?_
    refine aw_goto (tgt := 77) dX11_writeMaps_358 (by decide) ?_
    exact aw_lv _ (List.forall_mem_cons.mpr ⟨rfl, (List.forall_mem_cons.mpr ⟨rfl, (List.forall_mem_cons.mpr ⟨rfl, (List.forall_mem_cons.mpr ⟨rfl, fun _ h => absurd h List.not_mem_nil⟩)⟩)⟩)⟩) (hk77 v1 v2 (v3 + 1) mw mu _ hE hF)
  · replace hE := fif hE c101
    refine aw_aload_n dX11_writeMaps_104 rfl ?_
    refine aw_iload_n dX11_writeMaps_105 rfl ?_
    refine aw_iload dX11_writeMaps_106 rfl ?_
    refine aw_iload_n dX11_writeMaps_108 rfl ?_
    refine aw_callV dX11_writeMaps_109 at_mod cvX11_291 rfl (kF_X11_at mo mw mr ms mt mu dd wi hi gt sp ta li sr co hb _  v1 v5 v3 (fon_ne hE hF)) rfl (Nat.le_of_ble_eq_true rfl) (by decide) (by decide) (by decide) (by decide) (fun _ _ _ hf => False.elim hf) (fun r109 h109 n109 hp109 => ?_)
    obtain ⟨z109, s109, e109, rfl, rfl, rfl⟩ := hp109
    replace hE := fon_ok e109 hE
    refine aw_istore (lv2 := [(6, _), (0, _), (1, _), (2, _), (3, _), (4, _), (5, _)]) dX11_writeMaps_112 (by decide) rfl ?_
    refine aw_iload dX11_writeMaps_114 rfl ?_
    refine aw_aload_n dX11_writeMaps_116 rfl ?_
    refine aw_getf (v := .ref 35) dX11_writeMaps_117 flX11_21_10 at_mod rfl ?_
    refine aw_iload_n dX11_writeMaps_120 rfl ?_
    obtain ⟨g121, hE⟩ := fgd hE hF
    refine aw_iald (f := wi) dX11_writeMaps_121 at_mwide (vp_in_iff.mpr g121) ?_
    refine aw_iconst (v := 1) dX11_writeMaps_122 (by decide) ?_
    refine aw_isub dX11_writeMaps_123 ?_
    refine aw_icmp_ne (tgt := 131) dX11_writeMaps_124 (by decide) (fun c124 => ?_) (fun c124 => ?_)
    · replace hE := fif hE c124
      refine aw_iconst (v := 0) dX11_writeMaps_131 (by decide) ?_
      exact aw_lv _ (List.forall_mem_cons.mpr ⟨rfl, (List.forall_mem_cons.mpr ⟨rfl, (List.forall_mem_cons.mpr ⟨rfl, (List.forall_mem_cons.mpr ⟨rfl, (List.forall_mem_cons.mpr ⟨rfl, (List.forall_mem_cons.mpr ⟨rfl, (List.forall_mem_cons.mpr ⟨rfl, fun _ h => absurd h List.not_mem_nil⟩)⟩)⟩)⟩)⟩)⟩)⟩) (b_X11_writeMaps_132 mo mr ms mt dd wi hi gt sp ta li sr co hb n  k77 hk77 k93 hk93 v1 v2 v3 v4 v5 z109 (0 : Int32) mw mu _ hE hF)
    · replace hE := fit hE c124
      refine aw_iconst (v := 1) dX11_writeMaps_127 (by decide) ?_
      refine aw_goto (tgt := 132) dX11_writeMaps_128 (by decide) ?_
      exact aw_lv _ (List.forall_mem_cons.mpr ⟨rfl, (List.forall_mem_cons.mpr ⟨rfl, (List.forall_mem_cons.mpr ⟨rfl, (List.forall_mem_cons.mpr ⟨rfl, (List.forall_mem_cons.mpr ⟨rfl, (List.forall_mem_cons.mpr ⟨rfl, (List.forall_mem_cons.mpr ⟨rfl, fun _ h => absurd h List.not_mem_nil⟩)⟩)⟩)⟩)⟩)⟩)⟩) (b_X11_writeMaps_132 mo mr ms mt dd wi hi gt sp ta li sr co hb n  k77 hk77 k93 hk93 v1 v2 v3 v4 v5 z109 (1 : Int32) mw mu _ hE hF)
def F_X11_writeMaps_77 (dd : A) (wi : A) (hi : A) (k77 : Int32 → Int32 → Int32 → MW → A → Out (MW × A) Unit) (v1 : Int32) (v2 : Int32) (v3 : Int32) (mw : MW) (mu : A) : Out (MW × A) Unit := if inb v1 4 then (if (hi (Int32.toNatClampNeg v1)) ≤ v3 then (fok () (mw, mu)) else (lp (fun _ _ _ _ _ _ _ => fno) (F_X11_writeMaps_93 dd wi hi k77) FU v1 v2 v3 (0 : Int32) (0 : Int32) mw mu)) else fno
set_option maxHeartbeats 1000000 in
set_option maxRecDepth 100000 in
theorem b_X11_writeMaps_77 (mo : MO) (mr : MR) (ms : Nat) (mt : A) (dd : A) (wi : A) (hi : A) (gt : A) (sp : A) (ta : A) (li : A) (sr : A) (co : A) (hb : aH) (n : Nat)  (k77 : Int32 → Int32 → Int32 → MW → A → Out (MW × A) Unit) (hk77 : Q_X11_writeMaps_77 mo mr ms mt dd wi hi gt sp ta li sr co hb n k77) : Q_X11_writeMaps_77 mo mr ms mt dd wi hi gt sp ta li sr co hb n (F_X11_writeMaps_77 dd wi hi k77) := by
  intro v1 v2 v3 mw mu res hE hF
  unfold F_X11_writeMaps_77 at hE
  refine aw_iload_n dX11_writeMaps_77 rfl ?_
  refine aw_aload_n dX11_writeMaps_78 rfl ?_
  refine aw_getf (v := .ref 36) dX11_writeMaps_79 flX11_24_10 at_mod rfl ?_
  refine aw_iload_n dX11_writeMaps_82 rfl ?_
  obtain ⟨g83, hE⟩ := fgd hE hF
  refine aw_iald (f := hi) dX11_writeMaps_83 at_mhigh (vp_in_iff.mpr g83) ?_
  refine aw_icmp_ge (tgt := 361) dX11_writeMaps_84 (by decide) (fun c84 => ?_) (fun c84 => ?_)
  · replace hE := fit hE c84
    exact aw_vret dX11_writeMaps_361 rfl (Nat.zero_le _) (Nat.zero_le _) (Nat.zero_le _) (Nat.zero_le _) ⟨_, _, hE.symm, rfl, rfl, rfl⟩
  · replace hE := fif hE c84
    refine aw_iconst (v := 0) dX11_writeMaps_87 (by decide) ?_
    refine aw_istore (lv2 := [(4, _), (0, _), (1, _), (2, _), (3, _)]) dX11_writeMaps_88 (by decide) rfl ?_
    refine aw_iconst (v := 0) dX11_writeMaps_90 (by decide) ?_
    refine aw_istore (lv2 := [(5, _), (4, _), (0, _), (1, _), (2, _), (3, _)]) dX11_writeMaps_91 (by decide) rfl ?_
    exact aw_lv _ (List.forall_mem_cons.mpr ⟨rfl, (List.forall_mem_cons.mpr ⟨rfl, (List.forall_mem_cons.mpr ⟨rfl, (List.forall_mem_cons.mpr ⟨rfl, (List.forall_mem_cons.mpr ⟨rfl, (List.forall_mem_cons.mpr ⟨rfl, fun _ h => absurd h List.not_mem_nil⟩)⟩)⟩)⟩)⟩)⟩) (lp_ind (Q_X11_writeMaps_93 mo mr ms mt dd wi hi gt sp ta li sr co hb n) (fun _ _ _ _ _ _ _ res hq hF => (hF hq.symm).elim) (fun k hk => b_X11_writeMaps_93 mo mr ms mt dd wi hi gt sp ta li sr co hb n  k77 hk77 k hk) FU v1 v2 v3 (0 : Int32) (0 : Int32) mw mu _ hE hF)
def F_X11_writeMaps_75 (dd : A) (wi : A) (hi : A)  (v1 : Int32) (v2 : Int32) (mw : MW) (mu : A) : Out (MW × A) Unit := lp (fun _ _ _ _ _ => fno) (F_X11_writeMaps_77 dd wi hi) FU v1 v2 (0 : Int32) mw mu
set_option maxHeartbeats 1000000 in
set_option maxRecDepth 100000 in
theorem b_X11_writeMaps_75 (mo : MO) (mr : MR) (ms : Nat) (mt : A) (dd : A) (wi : A) (hi : A) (gt : A) (sp : A) (ta : A) (li : A) (sr : A) (co : A) (hb : aH) (n : Nat)   : Q_X11_writeMaps_75 mo mr ms mt dd wi hi gt sp ta li sr co hb n (F_X11_writeMaps_75 dd wi hi) := by
  intro v1 v2 mw mu res hE hF
  unfold F_X11_writeMaps_75 at hE
  refine aw_iconst (v := 0) dX11_writeMaps_75 (by decide) ?_
  refine aw_istore_n (lv2 := [(3, _), (0, _), (1, _), (2, _)]) dX11_writeMaps_76 (by decide) rfl ?_
  exact aw_lv _ (List.forall_mem_cons.mpr ⟨rfl, (List.forall_mem_cons.mpr ⟨rfl, (List.forall_mem_cons.mpr ⟨rfl, (List.forall_mem_cons.mpr ⟨rfl, fun _ h => absurd h List.not_mem_nil⟩)⟩)⟩)⟩) (lp_ind (Q_X11_writeMaps_77 mo mr ms mt dd wi hi gt sp ta li sr co hb n) (fun _ _ _ _ _ res hq hF => (hF hq.symm).elim) (fun k hk => b_X11_writeMaps_77 mo mr ms mt dd wi hi gt sp ta li sr co hb n   k hk) FU v1 v2 (0 : Int32) mw mu _ hE hF)
def F_X11_writeMaps (a1 : Int32) (a2 : Int32) (mw : MW) (mu : A) (dd : A) (wi : A) (hi : A) : Out (MW × A) Unit := fon (F_X11_put_ 80 mw mu) (fun z3 s3 => fon (F_X11_put_ (48 + a2) s3.1 s3.2) (fun z11 s11 => fon (F_X11_put_ 10 s11.1 s11.2) (fun z17 s17 => if inb a1 4 then (fon (F_X11_putNumber_4 (wi (Int32.toNatClampNeg a1)) s17.1 s17.2) (fun z27 s27 => fon (F_X11_put_ 32 s27.1 s27.2) (fun z33 s33 => if inb a1 4 then (fon (F_X11_putNumber_4 (hi (Int32.toNatClampNeg a1)) s33.1 s33.2) (fun z43 s43 => fon (F_X11_put_ 10 s43.1 s43.2) (fun z49 s49 => if a2 = 1 then (F_X11_writeMaps_75 dd wi hi a1 a2 s49.1 s49.2) else (if a2 = 4 then (F_X11_writeMaps_75 dd wi hi a1 a2 s49.1 s49.2) else (fon (F_X11_putNumber_4 255 s49.1 s49.2) (fun z66 s66 => fon (F_X11_put_ 10 s66.1 s66.2) (fun z72 s72 => F_X11_writeMaps_75 dd wi hi a1 a2 s72.1 s72.2) (fun _ _ => fno)) (fun _ _ => fno)))) (fun _ _ => fno)) (fun _ _ => fno)) else fno) (fun _ _ => fno)) (fun _ _ => fno)) else fno) (fun _ _ => fno)) (fun _ _ => fno)) (fun _ _ => fno)
set_option maxHeartbeats 1000000 in
set_option maxRecDepth 100000 in
theorem kF_X11_writeMaps (mo : MO) (mw : MW) (mr : MR) (ms : Nat) (mt : A) (mu : A) (dd : A) (wi : A) (hi : A) (gt : A) (sp : A) (ta : A) (li : A) (sr : A) (co : A) (hb : aH) (n : Nat)  (a1 : Int32) (a2 : Int32) (hF : F_X11_writeMaps a1 a2 mw mu dd wi hi ≠ fno) : AM mX11_writeMaps 6 [.ref 31, .int a1, .int a2] (HM mo mw mr ms mt mu dd wi hi gt sp ta li sr co hb) n 0 0 0 0 (P_X11_writeMaps mo mr ms mt dd wi hi gt sp ta li sr co hb n (F_X11_writeMaps a1 a2 mw mu dd wi hi)) (fun _ _ _ => False) := by
  generalize hE : F_X11_writeMaps a1 a2 mw mu dd wi hi = res at hF ⊢
  refine aw_of (by decide +kernel) rfl (Nat.le_of_ble_eq_true rfl) ?_
  unfold F_X11_writeMaps at hE
  refine aw_aload_n dX11_writeMaps_0 rfl ?_
  refine aw_bipush (v := 80) dX11_writeMaps_1 (by decide) ?_
  refine aw_callV dX11_writeMaps_3 at_mod cvX11_280 rfl (kF_X11_put_ mo mw mr ms mt mu dd wi hi gt sp ta li sr co hb _  80 (fon_ne hE hF)) rfl (Nat.le_of_ble_eq_true rfl) (by decide) (by decide) (by decide) (by decide) (fun _ _ _ hf => False.elim hf) (fun r3 h3 n3 hp3 => ?_)
  obtain ⟨z3, s3, e3, rfl, rfl, rfl⟩ := hp3
  replace hE := fon_ok e3 hE
  refine aw_aload_n dX11_writeMaps_6 rfl ?_
  refine aw_bipush (v := 48) dX11_writeMaps_7 (by decide) ?_
  refine aw_iload_n dX11_writeMaps_9 rfl ?_
  refine aw_iadd dX11_writeMaps_10 ?_
  refine aw_callV dX11_writeMaps_11 at_mod cvX11_280 rfl (kF_X11_put_ mo s3.1 mr ms mt s3.2 dd wi hi gt sp ta li sr co hb _  (48 + a2) (fon_ne hE hF)) rfl (Nat.le_of_ble_eq_true rfl) (by decide) (by decide) (by decide) (by decide) (fun _ _ _ hf => False.elim hf) (fun r11 h11 n11 hp11 => ?_)
  obtain ⟨z11, s11, e11, rfl, rfl, rfl⟩ := hp11
  replace hE := fon_ok e11 hE
  refine aw_aload_n dX11_writeMaps_14 rfl ?_
  refine aw_bipush (v := 10) dX11_writeMaps_15 (by decide) ?_
  refine aw_callV dX11_writeMaps_17 at_mod cvX11_280 rfl (kF_X11_put_ mo s11.1 mr ms mt s11.2 dd wi hi gt sp ta li sr co hb _  10 (fon_ne hE hF)) rfl (Nat.le_of_ble_eq_true rfl) (by decide) (by decide) (by decide) (by decide) (fun _ _ _ hf => False.elim hf) (fun r17 h17 n17 hp17 => ?_)
  obtain ⟨z17, s17, e17, rfl, rfl, rfl⟩ := hp17
  replace hE := fon_ok e17 hE
  refine aw_aload_n dX11_writeMaps_20 rfl ?_
  refine aw_aload_n dX11_writeMaps_21 rfl ?_
  refine aw_getf (v := .ref 35) dX11_writeMaps_22 flX11_21_10 at_mod rfl ?_
  refine aw_iload_n dX11_writeMaps_25 rfl ?_
  obtain ⟨g26, hE⟩ := fgd hE hF
  refine aw_iald (f := wi) dX11_writeMaps_26 at_mwide (vp_in_iff.mpr g26) ?_
  refine aw_callV dX11_writeMaps_27 at_mod cvX11_282 rfl (kF_X11_putNumber_4 mo s17.1 mr ms mt s17.2 dd wi hi gt sp ta li sr co hb _  (wi (Int32.toNatClampNeg a1)) (fon_ne hE hF)) rfl (Nat.le_of_ble_eq_true rfl) (by decide) (by decide) (by decide) (by decide) (fun _ _ _ hf => False.elim hf) (fun r27 h27 n27 hp27 => ?_)
  obtain ⟨z27, s27, e27, rfl, rfl, rfl⟩ := hp27
  replace hE := fon_ok e27 hE
  refine aw_aload_n dX11_writeMaps_30 rfl ?_
  refine aw_bipush (v := 32) dX11_writeMaps_31 (by decide) ?_
  refine aw_callV dX11_writeMaps_33 at_mod cvX11_280 rfl (kF_X11_put_ mo s27.1 mr ms mt s27.2 dd wi hi gt sp ta li sr co hb _  32 (fon_ne hE hF)) rfl (Nat.le_of_ble_eq_true rfl) (by decide) (by decide) (by decide) (by decide) (fun _ _ _ hf => False.elim hf) (fun r33 h33 n33 hp33 => ?_)
  obtain ⟨z33, s33, e33, rfl, rfl, rfl⟩ := hp33
  replace hE := fon_ok e33 hE
  refine aw_aload_n dX11_writeMaps_36 rfl ?_
  refine aw_aload_n dX11_writeMaps_37 rfl ?_
  refine aw_getf (v := .ref 36) dX11_writeMaps_38 flX11_24_10 at_mod rfl ?_
  refine aw_iload_n dX11_writeMaps_41 rfl ?_
  obtain ⟨g42, hE⟩ := fgd hE hF
  refine aw_iald (f := hi) dX11_writeMaps_42 at_mhigh (vp_in_iff.mpr g42) ?_
  refine aw_callV dX11_writeMaps_43 at_mod cvX11_282 rfl (kF_X11_putNumber_4 mo s33.1 mr ms mt s33.2 dd wi hi gt sp ta li sr co hb _  (hi (Int32.toNatClampNeg a1)) (fon_ne hE hF)) rfl (Nat.le_of_ble_eq_true rfl) (by decide) (by decide) (by decide) (by decide) (fun _ _ _ hf => False.elim hf) (fun r43 h43 n43 hp43 => ?_)
  obtain ⟨z43, s43, e43, rfl, rfl, rfl⟩ := hp43
  replace hE := fon_ok e43 hE
  refine aw_aload_n dX11_writeMaps_46 rfl ?_
  refine aw_bipush (v := 10) dX11_writeMaps_47 (by decide) ?_
  refine aw_callV dX11_writeMaps_49 at_mod cvX11_280 rfl (kF_X11_put_ mo s43.1 mr ms mt s43.2 dd wi hi gt sp ta li sr co hb _  10 (fon_ne hE hF)) rfl (Nat.le_of_ble_eq_true rfl) (by decide) (by decide) (by decide) (by decide) (fun _ _ _ hf => False.elim hf) (fun r49 h49 n49 hp49 => ?_)
  obtain ⟨z49, s49, e49, rfl, rfl, rfl⟩ := hp49
  replace hE := fon_ok e49 hE
  refine aw_iload_n dX11_writeMaps_52 rfl ?_
  refine aw_iconst (v := 1) dX11_writeMaps_53 (by decide) ?_
  refine aw_icmp_eq (tgt := 75) dX11_writeMaps_54 (by decide) (fun c54 => ?_) (fun c54 => ?_)
  · replace hE := fit hE c54
    exact aw_lv _ (List.forall_mem_cons.mpr ⟨rfl, (List.forall_mem_cons.mpr ⟨rfl, (List.forall_mem_cons.mpr ⟨rfl, fun _ h => absurd h List.not_mem_nil⟩)⟩)⟩) (b_X11_writeMaps_75 mo mr ms mt dd wi hi gt sp ta li sr co hb n   a1 a2 s49.1 s49.2 _ hE hF)
  · replace hE := fif hE c54
    refine aw_iload_n dX11_writeMaps_57 rfl ?_
    refine aw_iconst (v := 4) dX11_writeMaps_58 (by decide) ?_
    refine aw_icmp_eq (tgt := 75) dX11_writeMaps_59 (by decide) (fun c59 => ?_) (fun c59 => ?_)
    · replace hE := fit hE c59
      exact aw_lv _ (List.forall_mem_cons.mpr ⟨rfl, (List.forall_mem_cons.mpr ⟨rfl, (List.forall_mem_cons.mpr ⟨rfl, fun _ h => absurd h List.not_mem_nil⟩)⟩)⟩) (b_X11_writeMaps_75 mo mr ms mt dd wi hi gt sp ta li sr co hb n   a1 a2 s49.1 s49.2 _ hE hF)
    · replace hE := fif hE c59
      refine aw_aload_n dX11_writeMaps_62 rfl ?_
      refine aw_sipush (v := 255) dX11_writeMaps_63 (by decide) ?_
      refine aw_callV dX11_writeMaps_66 at_mod cvX11_282 rfl (kF_X11_putNumber_4 mo s49.1 mr ms mt s49.2 dd wi hi gt sp ta li sr co hb _  255 (fon_ne hE hF)) rfl (Nat.le_of_ble_eq_true rfl) (by decide) (by decide) (by decide) (by decide) (fun _ _ _ hf => False.elim hf) (fun r66 h66 n66 hp66 => ?_)
      obtain ⟨z66, s66, e66, rfl, rfl, rfl⟩ := hp66
      replace hE := fon_ok e66 hE
      refine aw_aload_n dX11_writeMaps_69 rfl ?_
      refine aw_bipush (v := 10) dX11_writeMaps_70 (by decide) ?_
      refine aw_callV dX11_writeMaps_72 at_mod cvX11_280 rfl (kF_X11_put_ mo s66.1 mr ms mt s66.2 dd wi hi gt sp ta li sr co hb _  10 (fon_ne hE hF)) rfl (Nat.le_of_ble_eq_true rfl) (by decide) (by decide) (by decide) (by decide) (fun _ _ _ hf => False.elim hf) (fun r72 h72 n72 hp72 => ?_)
      obtain ⟨z72, s72, e72, rfl, rfl, rfl⟩ := hp72
      replace hE := fon_ok e72 hE
      exact aw_lv _ (List.forall_mem_cons.mpr ⟨rfl, (List.forall_mem_cons.mpr ⟨rfl, (List.forall_mem_cons.mpr ⟨rfl, fun _ h => absurd h List.not_mem_nil⟩)⟩)⟩) (b_X11_writeMaps_75 mo mr ms mt dd wi hi gt sp ta li sr co hb n   a1 a2 s72.1 s72.2 _ hE hF)
def P_X11_writeFile (mo : MO) (mr : MR) (ms : Nat) (mt : A) (dd : A) (wi : A) (hi : A) (gt : A) (ta : A) (li : A) (sr : A) (hb : aH) (n : Nat) (res : Out (MW × A × A × A) Unit) : Option Value → aH → Nat → Prop := fun r1 h2 n2 => ∃ (a : Unit) (s : (MW × A × A × A)), res = fok a s ∧ r1 = none ∧ h2 = HM mo s.1 mr ms mt s.2.1 dd wi hi gt s.2.2.1 ta li sr s.2.2.2 hb ∧ n = n2
def F_X11_writeFile (a1 : Int32) (a2 : Int32) (mw : MW) (mu : A) (dd : A) (wi : A) (hi : A) (sp : A) (co : A) : Out (MW × A × A × A) Unit := if a2 = 0 then (fon (F_X11_writeChunks a1 (0, 1, (mw_cm mw)) mu dd wi hi sp) (fun z16 s16 => fok () (s16.1, s16.2.1, s16.2.2, co)) (fun _ _ => fno)) else (if 7 ≤ a2 then (if 10 ≤ a2 then (if 16 ≤ a2 then (fon (F_X11_writePlanes a1 a2 (0, 1, (mw_cm mw)) mu dd wi hi co) (fun z70 s70 => fok () (s70.1, s70.2.1, sp, s70.2.2)) (fun _ _ => fno)) else (fon (F_X11_writeTarga a1 a2 (0, 1, (mw_cm mw)) mu dd wi hi co) (fun z61 s61 => fok () (s61.1, s61.2.1, sp, s61.2.2)) (fun _ _ => fno))) else (fon (F_X11_writeRows a1 a2 (0, 1, (mw_cm mw)) mu dd wi hi co) (fun z46 s46 => fok () (s46.1, s46.2.1, sp, s46.2.2)) (fun _ _ => fno))) else (fon (F_X11_writeMaps a1 a2 (0, 1, (mw_cm mw)) mu dd wi hi) (fun z31 s31 => fok () (s31.1, s31.2, sp, co)) (fun _ _ => fno)))
set_option maxHeartbeats 1000000 in
set_option maxRecDepth 100000 in
theorem kF_X11_writeFile (mo : MO) (mw : MW) (mr : MR) (ms : Nat) (mt : A) (mu : A) (dd : A) (wi : A) (hi : A) (gt : A) (sp : A) (ta : A) (li : A) (sr : A) (co : A) (hb : aH) (n : Nat)  (a1 : Int32) (a2 : Int32) (hF : F_X11_writeFile a1 a2 mw mu dd wi hi sp co ≠ fno) : AM mX11_writeFile 7 [.ref 31, .int a1, .int a2] (HM mo mw mr ms mt mu dd wi hi gt sp ta li sr co hb) n 0 0 0 0 (P_X11_writeFile mo mr ms mt dd wi hi gt ta li sr hb n (F_X11_writeFile a1 a2 mw mu dd wi hi sp co)) (fun _ _ _ => False) := by
  generalize hE : F_X11_writeFile a1 a2 mw mu dd wi hi sp co = res at hF ⊢
  refine aw_of (by decide +kernel) rfl (Nat.le_of_ble_eq_true rfl) ?_
  unfold F_X11_writeFile at hE
  refine aw_aload_n dX11_writeFile_0 rfl ?_
  refine aw_iconst (v := 0) dX11_writeFile_1 (by decide) ?_
  refine aw_putf dX11_writeFile_2 ptX11_75_10 at_mod (Nat.le_of_ble_eq_true rfl) ⟨rfl, rfl⟩ ?_
  refine aw_eqh (h2 := HM mo (0, (mw_ho mw), (mw_cm mw)) mr ms mt mu dd wi hi gt sp ta li sr co hb) up_mod ?_
  refine aw_aload_n dX11_writeFile_5 rfl ?_
  refine aw_iconst (v := 1) dX11_writeFile_6 (by decide) ?_
  refine aw_putf dX11_writeFile_7 ptX11_71_10 at_mod (Nat.le_of_ble_eq_true rfl) (vokB (by decide)) ?_
  refine aw_eqh (h2 := HM mo (0, 1, (mw_cm mw)) mr ms mt mu dd wi hi gt sp ta li sr co hb) up_mod ?_
  refine aw_iload_n dX11_writeFile_10 rfl ?_
  refine aw_if_ne (tgt := 22) dX11_writeFile_11 (by decide) (fun c11 => ?_) (fun c11 => ?_)
  · replace hE := fif hE c11
    refine aw_iload_n dX11_writeFile_22 rfl ?_
    refine aw_bipush (v := 7) dX11_writeFile_23 (by decide) ?_
    refine aw_icmp_ge (tgt := 37) dX11_writeFile_25 (by decide) (fun c25 => ?_) (fun c25 => ?_)
    · replace hE := fit hE c25
      refine aw_iload_n dX11_writeFile_37 rfl ?_
      refine aw_bipush (v := 10) dX11_writeFile_38 (by decide) ?_
      refine aw_icmp_ge (tgt := 52) dX11_writeFile_40 (by decide) (fun c40 => ?_) (fun c40 => ?_)
      · replace hE := fit hE c40
        refine aw_iload_n dX11_writeFile_52 rfl ?_
        refine aw_bipush (v := 16) dX11_writeFile_53 (by decide) ?_
        refine aw_icmp_ge (tgt := 67) dX11_writeFile_55 (by decide) (fun c55 => ?_) (fun c55 => ?_)
        · replace hE := fit hE c55
          refine aw_aload_n dX11_writeFile_67 rfl ?_
          refine aw_iload_n dX11_writeFile_68 rfl ?_
          refine aw_iload_n dX11_writeFile_69 rfl ?_
          refine aw_callV dX11_writeFile_70 at_mod cvX11_325 rfl (kF_X11_writePlanes mo (0, 1, (mw_cm mw)) mr ms mt mu dd wi hi gt sp ta li sr co hb _  a1 a2 (fon_ne hE hF)) rfl (Nat.le_of_ble_eq_true rfl) (by decide) (by decide) (by decide) (by decide) (fun _ _ _ hf => False.elim hf) (fun r70 h70 n70 hp70 => ?_)
          obtain ⟨z70, s70, e70, rfl, rfl, rfl⟩ := hp70
          replace hE := fon_ok e70 hE
          exact aw_vret dX11_writeFile_73 rfl (Nat.zero_le _) (Nat.zero_le _) (Nat.zero_le _) (Nat.zero_le _) ⟨_, _, hE.symm, rfl, rfl, rfl⟩
        · replace hE := fif hE c55
          refine aw_aload_n dX11_writeFile_58 rfl ?_
          refine aw_iload_n dX11_writeFile_59 rfl ?_
          refine aw_iload_n dX11_writeFile_60 rfl ?_
          refine aw_callV dX11_writeFile_61 at_mod cvX11_322 rfl (kF_X11_writeTarga mo (0, 1, (mw_cm mw)) mr ms mt mu dd wi hi gt sp ta li sr co hb _  a1 a2 (fon_ne hE hF)) rfl (Nat.le_of_ble_eq_true rfl) (by decide) (by decide) (by decide) (by decide) (fun _ _ _ hf => False.elim hf) (fun r61 h61 n61 hp61 => ?_)
          obtain ⟨z61, s61, e61, rfl, rfl, rfl⟩ := hp61
          replace hE := fon_ok e61 hE
          refine aw_goto (tgt := 73) dX11_writeFile_64 (by decide) ?_
          exact aw_vret dX11_writeFile_73 rfl (Nat.zero_le _) (Nat.zero_le _) (Nat.zero_le _) (Nat.zero_le _) ⟨_, _, hE.symm, rfl, rfl, rfl⟩
      · replace hE := fif hE c40
        refine aw_aload_n dX11_writeFile_43 rfl ?_
        refine aw_iload_n dX11_writeFile_44 rfl ?_
        refine aw_iload_n dX11_writeFile_45 rfl ?_
        refine aw_callV dX11_writeFile_46 at_mod cvX11_319 rfl (kF_X11_writeRows mo (0, 1, (mw_cm mw)) mr ms mt mu dd wi hi gt sp ta li sr co hb _  a1 a2 (fon_ne hE hF)) rfl (Nat.le_of_ble_eq_true rfl) (by decide) (by decide) (by decide) (by decide) (fun _ _ _ hf => False.elim hf) (fun r46 h46 n46 hp46 => ?_)
        obtain ⟨z46, s46, e46, rfl, rfl, rfl⟩ := hp46
        replace hE := fon_ok e46 hE
        refine aw_goto (tgt := 73) dX11_writeFile_49 (by decide) ?_
        exact aw_vret dX11_writeFile_73 rfl (Nat.zero_le _) (Nat.zero_le _) (Nat.zero_le _) (Nat.zero_le _) ⟨_, _, hE.symm, rfl, rfl, rfl⟩
    · replace hE := fif hE c25
      refine aw_aload_n dX11_writeFile_28 rfl ?_
      refine aw_iload_n dX11_writeFile_29 rfl ?_
      refine aw_iload_n dX11_writeFile_30 rfl ?_
      refine aw_callV dX11_writeFile_31 at_mod cvX11_316 rfl (kF_X11_writeMaps mo (0, 1, (mw_cm mw)) mr ms mt mu dd wi hi gt sp ta li sr co hb _  a1 a2 (fon_ne hE hF)) rfl (Nat.le_of_ble_eq_true rfl) (by decide) (by decide) (by decide) (by decide) (fun _ _ _ hf => False.elim hf) (fun r31 h31 n31 hp31 => ?_)
      obtain ⟨z31, s31, e31, rfl, rfl, rfl⟩ := hp31
      replace hE := fon_ok e31 hE
      refine aw_goto (tgt := 73) dX11_writeFile_34 (by decide) ?_
      exact aw_vret dX11_writeFile_73 rfl (Nat.zero_le _) (Nat.zero_le _) (Nat.zero_le _) (Nat.zero_le _) ⟨_, _, hE.symm, rfl, rfl, rfl⟩
  · replace hE := fit hE c11
    refine aw_aload_n dX11_writeFile_14 rfl ?_
    refine aw_iload_n dX11_writeFile_15 rfl ?_
    refine aw_callV dX11_writeFile_16 at_mod cvX11_313 rfl (kF_X11_writeChunks mo (0, 1, (mw_cm mw)) mr ms mt mu dd wi hi gt sp ta li sr co hb _  a1 (fon_ne hE hF)) rfl (Nat.le_of_ble_eq_true rfl) (by decide) (by decide) (by decide) (by decide) (fun _ _ _ hf => False.elim hf) (fun r16 h16 n16 hp16 => ?_)
    obtain ⟨z16, s16, e16, rfl, rfl, rfl⟩ := hp16
    replace hE := fon_ok e16 hE
    refine aw_goto (tgt := 73) dX11_writeFile_19 (by decide) ?_
    exact aw_vret dX11_writeFile_73 rfl (Nat.zero_le _) (Nat.zero_le _) (Nat.zero_le _) (Nat.zero_le _) ⟨_, _, hE.symm, rfl, rfl, rfl⟩
