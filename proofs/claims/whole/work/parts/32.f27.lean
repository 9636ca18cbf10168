def P_X11_writeChunks (mo : MO) (mr : MR) (ms : Nat) (mt : A) (dd : A) (wi : A) (hi : A) (gt : A) (ta : A) (li : A) (sr : A) (co : A) (hb : aH) (n : Nat) (res : Out (MW × A × A) Unit) : Option Value → aH → Nat → Prop := fun r1 h2 n2 => ∃ (a : Unit) (s : (MW × A × A)), res = fok a s ∧ r1 = none ∧ h2 = HM mo s.1 mr ms mt s.2.1 dd wi hi gt s.2.2 ta li sr co hb ∧ n = n2
abbrev Q_X11_writeChunks_58 (mo : MO) (mr : MR) (ms : Nat) (mt : A) (dd : A) (wi : A) (hi : A) (gt : A) (ta : A) (li : A) (sr : A) (co : A) (hb : aH) (n : Nat) (k : Int32 → Int32 → MW → A → A → Out (MW × A × A) Unit) : Prop := ∀ (v1 : Int32) (t0 : Int32) (mw : MW) (mu : A) (sp : A) (res : Out (MW × A × A) Unit), k v1 t0 mw mu sp = res → res ≠ fno → AW (fun _ _ => True) mX11_writeChunks (rmD 3 0 0) 0 0 (P_X11_writeChunks mo mr ms mt dd wi hi gt ta li sr co hb n res) (fun _ _ _ => False) 0 0 58 [(0, .ref 31), (1, .int v1)] [.int t0, .ref 31] (HM mo mw mr ms mt mu dd wi hi gt sp ta li sr co hb) n
abbrev Q_X11_writeChunks_68 (mo : MO) (mr : MR) (ms : Nat) (mt : A) (dd : A) (wi : A) (hi : A) (gt : A) (ta : A) (li : A) (sr : A) (co : A) (hb : aH) (n : Nat) (k : Int32 → Int32 → MW → A → A → Out (MW × A × A) Unit) : Prop := ∀ (v1 : Int32) (v2 : Int32) (mw : MW) (mu : A) (sp : A) (res : Out (MW × A × A) Unit), k v1 v2 mw mu sp = res → res ≠ fno → AW (fun _ _ => True) mX11_writeChunks (rmD 3 0 0) 0 0 (P_X11_writeChunks mo mr ms mt dd wi hi gt ta li sr co hb n res) (fun _ _ _ => False) 0 0 68 [(0, .ref 31), (1, .int v1), (2, .int v2)] [] (HM mo mw mr ms mt mu dd wi hi gt sp ta li sr co hb) n
abbrev Q_X11_writeChunks_100 (mo : MO) (mr : MR) (ms : Nat) (mt : A) (dd : A) (wi : A) (hi : A) (gt : A) (ta : A) (li : A) (sr : A) (co : A) (hb : aH) (n : Nat) (k : Int32 → Int32 → Int32 → Int32 → MW → A → A → Out (MW × A × A) Unit) : Prop := ∀ (v1 : Int32) (v2 : Int32) (v3 : Int32) (v4 : Int32) (mw : MW) (mu : A) (sp : A) (res : Out (MW × A × A) Unit), k v1 v2 v3 v4 mw mu sp = res → res ≠ fno → AW (fun _ _ => True) mX11_writeChunks (rmD 3 0 0) 0 0 (P_X11_writeChunks mo mr ms mt dd wi hi gt ta li sr co hb n res) (fun _ _ _ => False) 0 0 100 [(0, .ref 31), (1, .int v1), (2, .int v2), (3, .int v3), (4, .int v4)] [] (HM mo mw mr ms mt mu dd wi hi gt sp ta li sr co hb) n
abbrev Q_X11_writeChunks_124 (mo : MO) (mr : MR) (ms : Nat) (mt : A) (dd : A) (wi : A) (hi : A) (gt : A) (ta : A) (li : A) (sr : A) (co : A) (hb : aH) (n : Nat) (k : Int32 → Int32 → Int32 → Int32 → Int32 → Int32 → MW → A → A → Out (MW × A × A) Unit) : Prop := ∀ (v1 : Int32) (v2 : Int32) (v3 : Int32) (v4 : Int32) (v5 : Int32) (v6 : Int32) (mw : MW) (mu : A) (sp : A) (res : Out (MW × A × A) Unit), k v1 v2 v3 v4 v5 v6 mw mu sp = res → res ≠ fno → AW (fun _ _ => True) mX11_writeChunks (rmD 3 0 0) 0 0 (P_X11_writeChunks mo mr ms mt dd wi hi gt ta li sr co hb n res) (fun _ _ _ => False) 0 0 124 [(0, .ref 31), (1, .int v1), (2, .int v2), (3, .int v3), (4, .int v4), (5, .int v5), (6, .int v6)] [] (HM mo mw mr ms mt mu dd wi hi gt sp ta li sr co hb) n
abbrev Q_X11_writeChunks_166 (mo : MO) (mr : MR) (ms : Nat) (mt : A) (dd : A) (wi : A) (hi : A) (gt : A) (ta : A) (li : A) (sr : A) (co : A) (hb : aH) (n : Nat) (k : Int32 → Int32 → Int32 → Int32 → Int32 → Int32 → MW → A → A → Out (MW × A × A) Unit) : Prop := ∀ (v1 : Int32) (v2 : Int32) (v3 : Int32) (v4 : Int32) (v5 : Int32) (v6 : Int32) (mw : MW) (mu : A) (sp : A) (res : Out (MW × A × A) Unit), k v1 v2 v3 v4 v5 v6 mw mu sp = res → res ≠ fno → AW (fun _ _ => True) mX11_writeChunks (rmD 3 0 0) 0 0 (P_X11_writeChunks mo mr ms mt dd wi hi gt ta li sr co hb n res) (fun _ _ _ => False) 0 0 166 [(0, .ref 31), (1, .int v1), (2, .int v2), (3, .int v3), (4, .int v4), (5, .int v5), (6, .int v6)] [] (HM mo mw mr ms mt mu dd wi hi gt sp ta li sr co hb) n
abbrev Q_X11_writeChunks_225 (mo : MO) (mr : MR) (ms : Nat) (mt : A) (dd : A) (wi : A) (hi : A) (gt : A) (ta : A) (li : A) (sr : A) (co : A) (hb : aH) (n : Nat) (k : Int32 → Int32 → Int32 → Int32 → MW → A → A → Out (MW × A × A) Unit) : Prop := ∀ (v1 : Int32) (v3 : Int32) (v4 : Int32) (v5 : Int32) (mw : MW) (mu : A) (sp : A) (res : Out (MW × A × A) Unit), k v1 v3 v4 v5 mw mu sp = res → res ≠ fno → AW (fun _ _ => True) mX11_writeChunks (rmD 3 0 0) 0 0 (P_X11_writeChunks mo mr ms mt dd wi hi gt ta li sr co hb n res) (fun _ _ _ => False) 0 0 225 [(0, .ref 31), (1, .int v1), (3, .int v3), (4, .int v4), (5, .int v5)] [] (HM mo mw mr ms mt mu dd wi hi gt sp ta li sr co hb) n
abbrev Q_X11_writeChunks_228 (mo : MO) (mr : MR) (ms : Nat) (mt : A) (dd : A) (wi : A) (hi : A) (gt : A) (ta : A) (li : A) (sr : A) (co : A) (hb : aH) (n : Nat) (k : Int32 → Int32 → Int32 → Int32 → MW → A → A → Out (MW × A × A) Unit) : Prop := ∀ (v1 : Int32) (v3 : Int32) (v4 : Int32) (v5 : Int32) (mw : MW) (mu : A) (sp : A) (res : Out (MW × A × A) Unit), k v1 v3 v4 v5 mw mu sp = res → res ≠ fno → AW (fun _ _ => True) mX11_writeChunks (rmD 3 0 0) 0 0 (P_X11_writeChunks mo mr ms mt dd wi hi gt ta li sr co hb n res) (fun _ _ _ => False) 0 0 228 [(0, .ref 31), (1, .int v1), (3, .int v3), (4, .int v4), (5, .int v5)] [] (HM mo mw mr ms mt mu dd wi hi gt sp ta li sr co hb) n
abbrev Q_X11_writeChunks_249 (mo : MO) (mr : MR) (ms : Nat) (mt : A) (dd : A) (wi : A) (hi : A) (gt : A) (ta : A) (li : A) (sr : A) (co : A) (hb : aH) (n : Nat) (k : Int32 → MW → A → A → Out (MW × A × A) Unit) : Prop := ∀ (v5 : Int32) (mw : MW) (mu : A) (sp : A) (res : Out (MW × A × A) Unit), k v5 mw mu sp = res → res ≠ fno → AW (fun _ _ => True) mX11_writeChunks (rmD 3 0 0) 0 0 (P_X11_writeChunks mo mr ms mt dd wi hi gt ta li sr co hb n res) (fun _ _ _ => False) 0 0 249 [(0, .ref 31), (5, .int v5)] [] (HM mo mw mr ms mt mu dd wi hi gt sp ta li sr co hb) n
def F_X11_writeChunks_249 (dd : A) (wi : A) (hi : A) (k249 : Int32 → MW → A → A → Out (MW × A × A) Unit) (v5 : Int32) (mw : MW) (mu : A) (sp : A) : Out (MW × A × A) Unit := if 7 ≤ v5 then (fon (F_X11_put_ 1 mw mu) (fun z269 s269 => fok () (s269.1, s269.2, sp)) (fun _ _ => fno)) else (fon (F_X11_put_ 0 mw mu) (fun z258 s258 => k249 (v5 + 1) s258.1 s258.2 sp) (fun _ _ => fno))
set_option maxHeartbeats 1000000 in
set_option maxRecDepth 100000 in
theorem b_X11_writeChunks_249 (mo : MO) (mr : MR) (ms : Nat) (mt : A) (dd : A) (wi : A) (hi : A) (gt : A) (ta : A) (li : A) (sr : A) (co : A) (hb : aH) (n : Nat)  (k249 : Int32 → MW → A → A → Out (MW × A × A) Unit) (hk249 : Q_X11_writeChunks_249 mo mr ms mt dd wi hi gt ta li sr co hb n k249) : Q_X11_writeChunks_249 mo mr ms mt dd wi hi gt ta li sr co hb n (F_X11_writeChunks_249 dd wi hi k249) := by
  intro v5 mw mu sp res hE hF
  unfold F_X11_writeChunks_249 at hE
  refine aw_iload dX11_writeChunks_249 rfl ?_
  refine aw_bipush (v := 7) dX11_writeChunks_251 (by decide) ?_
  refine aw_icmp_ge (tgt := 267) dX11_writeChunks_253 (by decide) (fun c253 => ?_) (fun c253 => ?_)
  · replace hE := fit hE c253
    refine aw_aload_n dX11_writeChunks_267 rfl ?_
    refine aw_iconst (v := 1) dX11_writeChunks_268 (by decide) ?_
    refine aw_callV dX11_writeChunks_269 at_mod cvX11_280 rfl (kF_X11_put_ mo mw mr ms mt mu dd wi hi gt sp ta li sr co hb _  1 (fon_ne hE hF)) rfl (Nat.le_of_ble_eq_true rfl) (by decide) (by decide) (by decide) (by decide) (fun _ _ _ hf => False.elim hf) (fun r269 h269 n269 hp269 => ?_)
    obtain ⟨z269, s269, e269, rfl, rfl, rfl⟩ := hp269
    replace hE := fon_ok e269 hE
    exact aw_vret dX11_writeChunks_272 rfl (Nat.zero_le _) (Nat.zero_le _) (Nat.zero_le _) (Nat.zero_le _) ⟨_, _, hE.symm, rfl, rfl, rfl⟩
  · replace hE := fif hE c253
    refine aw_aload_n dX11_writeChunks_256 rfl ?_
    refine aw_iconst (v := 0) dX11_writeChunks_257 (by decide) ?_
    refine aw_callV dX11_writeChunks_258 at_mod cvX11_280 rfl (kF_X11_put_ mo mw mr ms mt mu dd wi hi gt sp ta li sr co hb _  0 (fon_ne hE hF)) rfl (Nat.le_of_ble_eq_true rfl) (by decide) (by decide) (by decide) (by decide) (fun _ _ _ hf => False.elim hf) (fun r258 h258 n258 hp258 => ?_)
    obtain ⟨z258, s258, e258, rfl, rfl, rfl⟩ := hp258
    replace hE := fon_ok e258 hE
    refine aw_iinc (v := (v5 + 1)) (lv2 := [(5, _), (0, _)]) dX11_writeChunks_261 rfl (incE (by decide)) (by decide) rfl ?_
    refine aw_goto (tgt := 249) dX11_writeChunks_264 (by decide) ?_
    exact aw_lv _ (List.forall_mem_cons.mpr ⟨rfl, (List.forall_mem_cons.mpr ⟨rfl, fun _ h => absurd h List.not_mem_nil⟩)⟩) (hk249 (v5 + 1) s258.1 s258.2 sp _ hE hF)
def F_X11_writeChunks_228 (dd : A) (wi : A) (hi : A) (k100 : Int32 → Int32 → Int32 → Int32 → MW → A → A → Out (MW × A × A) Unit) (v1 : Int32) (v3 : Int32) (v4 : Int32) (v5 : Int32) (mw : MW) (mu : A) (sp : A) : Out (MW × A × A) Unit := if inb (F_X11_spot v5) 64 then (k100 v1 v5 v3 v4 mw mu (upd sp (Int32.toNatClampNeg (F_X11_spot v5)) v5)) else fno
set_option maxHeartbeats 1000000 in
set_option maxRecDepth 100000 in
theorem b_X11_writeChunks_228 (mo : MO) (mr : MR) (ms : Nat) (mt : A) (dd : A) (wi : A) (hi : A) (gt : A) (ta : A) (li : A) (sr : A) (co : A) (hb : aH) (n : Nat)  (k100 : Int32 → Int32 → Int32 → Int32 → MW → A → A → Out (MW × A × A) Unit) (hk100 : Q_X11_writeChunks_100 mo mr ms mt dd wi hi gt ta li sr co hb n k100) : Q_X11_writeChunks_228 mo mr ms mt dd wi hi gt ta li sr co hb n (F_X11_writeChunks_228 dd wi hi k100) := by
  intro v1 v3 v4 v5 mw mu sp res hE hF
  unfold F_X11_writeChunks_228 at hE
  refine aw_iload dX11_writeChunks_228 rfl ?_
  refine aw_istore_n (lv2 := [(2, _), (0, _), (1, _), (3, _), (4, _), (5, _)]) dX11_writeChunks_230 (by decide) rfl ?_
  refine aw_aload_n dX11_writeChunks_231 rfl ?_
  refine aw_getf (v := .ref 38) dX11_writeChunks_232 flX11_46_10 at_mod rfl ?_
  refine aw_iload dX11_writeChunks_235 rfl ?_
  refine aw_callS dX11_writeChunks_237  csX11_142 rfl (kF_X11_spot _ _ v5) rfl (Nat.le_of_ble_eq_true rfl) (by decide) (by decide) (by decide) (by decide) (fun _ _ _ hf => False.elim hf) (fun r237 h237 n237 hp237 => ?_)
  obtain ⟨rfl, rfl, rfl⟩ := hp237
  refine aw_iload dX11_writeChunks_240 rfl ?_
  obtain ⟨g242, hE⟩ := fgd hE hF
  refine aw_iast (f := sp) dX11_writeChunks_242 at_mspots (vp_in_iff.mpr g242) ?_
  refine aw_eqh (h2 := HM mo mw mr ms mt mu dd wi hi gt (upd sp (Int32.toNatClampNeg (F_X11_spot v5)) v5) ta li sr co hb) up_mspots ?_
  refine aw_goto (tgt := 100) dX11_writeChunks_243 (by decide) ?_
  exact aw_lv _ (List.forall_mem_cons.mpr ⟨rfl, (List.forall_mem_cons.mpr ⟨rfl, (List.forall_mem_cons.mpr ⟨rfl, (List.forall_mem_cons.mpr ⟨rfl, (List.forall_mem_cons.mpr ⟨rfl, fun _ h => absurd h List.not_mem_nil⟩)⟩)⟩)⟩)⟩) (hk100 v1 v5 v3 v4 mw mu (upd sp (Int32.toNatClampNeg (F_X11_spot v5)) v5) _ hE hF)
def F_X11_writeChunks_225 (dd : A) (wi : A) (hi : A) (k100 : Int32 → Int32 → Int32 → Int32 → MW → A → A → Out (MW × A × A) Unit) (v1 : Int32) (v3 : Int32) (v4 : Int32) (v5 : Int32) (mw : MW) (mu : A) (sp : A) : Out (MW × A × A) Unit := F_X11_writeChunks_228 dd wi hi k100 v1 v3 (v4 + 1) v5 mw mu sp
set_option maxHeartbeats 1000000 in
set_option maxRecDepth 100000 in
theorem b_X11_writeChunks_225 (mo : MO) (mr : MR) (ms : Nat) (mt : A) (dd : A) (wi : A) (hi : A) (gt : A) (ta : A) (li : A) (sr : A) (co : A) (hb : aH) (n : Nat)  (k100 : Int32 → Int32 → Int32 → Int32 → MW → A → A → Out (MW × A × A) Unit) (hk100 : Q_X11_writeChunks_100 mo mr ms mt dd wi hi gt ta li sr co hb n k100) : Q_X11_writeChunks_225 mo mr ms mt dd wi hi gt ta li sr co hb n (F_X11_writeChunks_225 dd wi hi k100) := by
  intro v1 v3 v4 v5 mw mu sp res hE hF
  unfold F_X11_writeChunks_225 at hE
  refine aw_iinc (v := (v4 + 1)) (lv2 := [(4, _), (0, _), (1, _), (3, _), (5, _)]) dX11_writeChunks_225 rfl (incE (by decide)) (by decide) rfl ?_
  exact aw_lv _ (List.forall_mem_cons.mpr ⟨rfl, (List.forall_mem_cons.mpr ⟨rfl, (List.forall_mem_cons.mpr ⟨rfl, (List.forall_mem_cons.mpr ⟨rfl, (List.forall_mem_cons.mpr ⟨rfl, fun _ h => absurd h List.not_mem_nil⟩)⟩)⟩)⟩)⟩) (b_X11_writeChunks_228 mo mr ms mt dd wi hi gt ta li sr co hb n  k100 hk100 v1 v3 (v4 + 1) v5 mw mu sp _ hE hF)
def F_X11_writeChunks_166 (dd : A) (wi : A) (hi : A) (k100 : Int32 → Int32 → Int32 → Int32 → MW → A → A → Out (MW × A × A) Unit) (v1 : Int32) (v2 : Int32) (v3 : Int32) (v4 : Int32) (v5 : Int32) (v6 : Int32) (mw : MW) (mu : A) (sp : A) : Out (MW × A × A) Unit := if v6 ≤ 0 then (if inb (F_X11_spot v5) 64 then (if (sp (Int32.toNatClampNeg (F_X11_spot v5))) = v5 then (fon (F_X11_put_ (F_X11_spot v5) mw mu) (fun z212 s212 => F_X11_writeChunks_225 dd wi hi k100 v1 v3 v4 v5 s212.1 s212.2 sp) (fun _ _ => fno)) else (fon (F_X11_chunk v2 v5 mw mu) (fun z222 s222 => F_X11_writeChunks_225 dd wi hi k100 v1 v3 v4 v5 s222.1 s222.2 sp) (fun _ _ => fno))) else fno) else (fon (F_X11_put_ (191 + v6) mw mu) (fun z178 s178 => F_X11_writeChunks_228 dd wi hi k100 v1 v3 (v4 + v6) v5 s178.1 s178.2 sp) (fun _ _ => fno))
set_option maxHeartbeats 1000000 in
set_option maxRecDepth 100000 in
theorem b_X11_writeChunks_166 (mo : MO) (mr : MR) (ms : Nat) (mt : A) (dd : A) (wi : A) (hi : A) (gt : A) (ta : A) (li : A) (sr : A) (co : A) (hb : aH) (n : Nat)  (k100 : Int32 → Int32 → Int32 → Int32 → MW → A → A → Out (MW × A × A) Unit) (hk100 : Q_X11_writeChunks_100 mo mr ms mt dd wi hi gt ta li sr co hb n k100) : Q_X11_writeChunks_166 mo mr ms mt dd wi hi gt ta li sr co hb n (F_X11_writeChunks_166 dd wi hi k100) := by
  intro v1 v2 v3 v4 v5 v6 mw mu sp res hE hF
  unfold F_X11_writeChunks_166 at hE
  refine aw_iload dX11_writeChunks_166 rfl ?_
  refine aw_if_le (tgt := 191) dX11_writeChunks_168 (by decide) (fun c168 => ?_) (fun c168 => ?_)
  · replace hE := fit hE c168
    refine aw_aload_n dX11_writeChunks_191 rfl ?_
    refine aw_getf (v := .ref 38) dX11_writeChunks_192 flX11_46_10 at_mod rfl ?_
    refine aw_iload dX11_writeChunks_195 rfl ?_
    refine aw_callS dX11_writeChunks_197  csX11_142 rfl (kF_X11_spot _ _ v5) rfl (Nat.le_of_ble_eq_true rfl) (by decide) (by decide) (by decide) (by decide) (fun _ _ _ hf => False.elim hf) (fun r197 h197 n197 hp197 => ?_)
    obtain ⟨rfl, rfl, rfl⟩ := hp197
    obtain ⟨g200, hE⟩ := fgd hE hF
    refine aw_iald (f := sp) dX11_writeChunks_200 at_mspots (vp_in_iff.mpr g200) ?_
    refine aw_iload dX11_writeChunks_201 rfl ?_
    refine aw_icmp_ne (tgt := 218) dX11_writeChunks_203 (by decide) (fun c203 => ?_) (fun c203 => ?_)
    · replace hE := fif hE c203
      refine aw_aload_n dX11_writeChunks_218 rfl ?_
      refine aw_iload_n dX11_writeChunks_219 rfl ?_
      refine aw_iload dX11_writeChunks_220 rfl ?_
      refine aw_callV dX11_writeChunks_222 at_mod cvX11_288 rfl (kF_X11_chunk mo mw mr ms mt mu dd wi hi gt sp ta li sr co hb _  v2 v5 (fon_ne hE hF)) rfl (Nat.le_of_ble_eq_true rfl) (by decide) (by decide) (by decide) (by decide) (fun _ _ _ hf => False.elim hf) (fun r222 h222 n222 hp222 => ?_)
      obtain ⟨z222, s222, e222, rfl, rfl, rfl⟩ := hp222
      replace hE := fon_ok e222 hE
      exact aw_lv _ (List.forall_mem_cons.mpr ⟨rfl, (List.forall_mem_cons.mpr ⟨rfl, (List.forall_mem_cons.mpr ⟨rfl, (List.forall_mem_cons.mpr ⟨rfl, (List.forall_mem_cons.mpr ⟨rfl, fun _ h => absurd h List.not_mem_nil⟩)⟩)⟩)⟩)⟩) (b_X11_writeChunks_225 mo mr ms mt dd wi hi gt ta li sr co hb n  k100 hk100 v1 v3 v4 v5 s222.1 s222.2 sp _ hE hF)
    · replace hE := fit hE c203
      refine aw_aload_n dX11_writeChunks_206 rfl ?_
      refine aw_iload dX11_writeChunks_207 rfl ?_
      refine aw_callS dX11_writeChunks_209  csX11_142 rfl (kF_X11_spot _ _ v5) rfl (Nat.le_of_ble_eq_true rfl) (by decide) (by decide) (by decide) (by decide) (fun _ _ _ hf => False.elim hf) (fun r209 h209 n209 hp209 => ?_)
      obtain ⟨rfl, rfl, rfl⟩ := hp209
      refine aw_callV dX11_writeChunks_212 at_mod cvX11_280 rfl (kF_X11_put_ mo mw mr ms mt mu dd wi hi gt sp ta li sr co hb _  (F_X11_spot v5) (fon_ne hE hF)) rfl (Nat.le_of_ble_eq_true rfl) (by decide) (by decide) (by decide) (by decide) (fun _ _ _ hf => False.elim hf) (fun r212 h212 n212 hp212 => ?_)
      obtain ⟨z212, s212, e212, rfl, rfl, rfl⟩ := hp212
      replace hE := fon_ok e212 hE
      refine aw_goto (tgt := 225) dX11_writeChunks_215 (by decide) ?_
      exact aw_lv _ (List.forall_mem_cons.mpr ⟨rfl, (List.forall_mem_cons.mpr ⟨rfl, (List.forall_mem_cons.mpr ⟨rfl, (List.forall_mem_cons.mpr ⟨rfl, (List.forall_mem_cons.mpr ⟨rfl, fun _ h => absurd h List.not_mem_nil⟩)⟩)⟩)⟩)⟩) (b_X11_writeChunks_225 mo mr ms mt dd wi hi gt ta li sr co hb n  k100 hk100 v1 v3 v4 v5 s212.1 s212.2 sp _ hE hF)
  · replace hE := fif hE c168
    refine aw_aload_n dX11_writeChunks_171 rfl ?_
    refine aw_sipush (v := 191) dX11_writeChunks_172 (by decide) ?_
    refine aw_iload dX11_writeChunks_175 rfl ?_
    refine aw_iadd dX11_writeChunks_177 ?_
    refine aw_callV dX11_writeChunks_178 at_mod cvX11_280 rfl (kF_X11_put_ mo mw mr ms mt mu dd wi hi gt sp ta li sr co hb _  (191 + v6) (fon_ne hE hF)) rfl (Nat.le_of_ble_eq_true rfl) (by decide) (by decide) (by decide) (by decide) (fun _ _ _ hf => False.elim hf) (fun r178 h178 n178 hp178 => ?_)
    obtain ⟨z178, s178, e178, rfl, rfl, rfl⟩ := hp178
    replace hE := fon_ok e178 hE
    refine aw_iload dX11_writeChunks_181 rfl ?_
    refine aw_iload dX11_writeChunks_183 rfl ?_
    refine aw_iadd dX11_writeChunks_185 ?_
    refine aw_istore (lv2 := [(4, _), (0, _), (1, _), (2, _), (3, _), (5, _), (6, _)]) dX11_writeChunks_186 (by decide) rfl ?_
    refine aw_goto (tgt := 228) dX11_writeChunks_188 (by decide) ?_
    exact aw_lv _ (List.forall_mem_cons.mpr ⟨rfl, (List.forall_mem_cons.mpr ⟨rfl, (List.forall_mem_cons.mpr ⟨rfl, (List.forall_mem_cons.mpr ⟨rfl, (List.forall_mem_cons.mpr ⟨rfl, fun _ h => absurd h List.not_mem_nil⟩)⟩)⟩)⟩)⟩) (b_X11_writeChunks_228 mo mr ms mt dd wi hi gt ta li sr co hb n  k100 hk100 v1 v3 (v4 + v6) v5 s178.1 s178.2 sp _ hE hF)
def F_X11_writeChunks_124 (dd : A) (wi : A) (hi : A) (k100 : Int32 → Int32 → Int32 → Int32 → MW → A → A → Out (MW × A × A) Unit) (k124 : Int32 → Int32 → Int32 → Int32 → Int32 → Int32 → MW → A → A → Out (MW × A × A) Unit) (v1 : Int32) (v2 : Int32) (v3 : Int32) (v4 : Int32) (v5 : Int32) (v6 : Int32) (mw : MW) (mu : A) (sp : A) : Out (MW × A × A) Unit := if 62 ≤ v6 then (F_X11_writeChunks_166 dd wi hi k100 v1 v2 v3 v4 v5 v6 mw mu sp) else (if v3 ≤ (v4 + v6) then (F_X11_writeChunks_166 dd wi hi k100 v1 v2 v3 v4 v5 v6 mw mu sp) else (if inb (((4096 * v1) + v4) + v6) 16384 then (if (dd (Int32.toNatClampNeg (((4096 * v1) + v4) + v6))) = v2 then (k124 v1 v2 v3 v4 v5 (v6 + 1) mw mu sp) else (F_X11_writeChunks_166 dd wi hi k100 v1 v2 v3 v4 v5 v6 mw mu sp)) else fno))
set_option maxHeartbeats 1000000 in
set_option maxRecDepth 100000 in
theorem b_X11_writeChunks_124 (mo : MO) (mr : MR) (ms : Nat) (mt : A) (dd : A) (wi : A) (hi : A) (gt : A) (ta : A) (li : A) (sr : A) (co : A) (hb : aH) (n : Nat)  (k100 : Int32 → Int32 → Int32 → Int32 → MW → A → A → Out (MW × A × A) Unit) (hk100 : Q_X11_writeChunks_100 mo mr ms mt dd wi hi gt ta li sr co hb n k100) (k124 : Int32 → Int32 → Int32 → Int32 → Int32 → Int32 → MW → A → A → Out (MW × A × A) Unit) (hk124 : Q_X11_writeChunks_124 mo mr ms mt dd wi hi gt ta li sr co hb n k124) : Q_X11_writeChunks_124 mo mr ms mt dd wi hi gt ta li sr co hb n (F_X11_writeChunks_124 dd wi hi k100 k124) := by
  intro v1 v2 v3 v4 v5 v6 mw mu sp res hE hF
  unfold F_X11_writeChunks_124 at hE
  refine aw_iload dX11_writeChunks_124 rfl ?_
  refine aw_bipush (v := 62) dX11_writeChunks_126 (by decide) ?_
  refine aw_icmp_ge (tgt := 166) dX11_writeChunks_128 (by decide) (fun c128 => ?_) (fun c128 => ?_)
  · replace hE := fit hE c128
    exact aw_lv _ (List.forall_mem_cons.mpr ⟨rfl, (List.forall_mem_cons.mpr ⟨rfl, (List.forall_mem_cons.mpr ⟨rfl, (List.forall_mem_cons.mpr ⟨rfl, (List.forall_mem_cons.mpr ⟨rfl, (List.forall_mem_cons.mpr ⟨rfl, (List.forall_mem_cons.mpr ⟨rfl, fun _ h => absurd h List.not_mem_nil⟩)⟩)⟩)⟩)⟩)⟩)⟩) (b_X11_writeChunks_166 mo mr ms mt dd wi hi gt ta li sr co hb n  k100 hk100 v1 v2 v3 v4 v5 v6 mw mu sp _ hE hF)
  · replace hE := fif hE c128
    refine aw_iload dX11_writeChunks_131 rfl ?_
    refine aw_iload dX11_writeChunks_133 rfl ?_
    refine aw_iadd dX11_writeChunks_135 ?_
    refine aw_iload_n dX11_writeChunks_136 rfl ?_
    refine aw_icmp_ge (tgt := 166) dX11_writeChunks_137 (by decide) (fun c137 => ?_) (fun c137 => ?_)
    · replace hE := fit hE c137
      exact aw_lv _ (List.forall_mem_cons.mpr ⟨rfl, (List.forall_mem_cons.mpr ⟨rfl, (List.forall_mem_cons.mpr ⟨rfl, (List.forall_mem_cons.mpr ⟨rfl, (List.forall_mem_cons.mpr ⟨rfl, (List.forall_mem_cons.mpr ⟨rfl, (List.forall_mem_cons.mpr ⟨rfl, fun _ h => absurd h List.not_mem_nil⟩)⟩)⟩)⟩)⟩)⟩)⟩) (b_X11_writeChunks_166 mo mr ms mt dd wi hi gt ta li sr co hb n  k100 hk100 v1 v2 v3 v4 v5 v6 mw mu sp _ hE hF)
    · replace hE := fif hE c137
      refine aw_aload_n dX11_writeChunks_140 rfl ?_
      refine aw_getf (v := .ref 34) dX11_writeChunks_141 flX11_17_10 at_mod rfl ?_
      refine aw_sipush (v := 4096) dX11_writeChunks_144 (by decide) ?_
      refine aw_iload_n dX11_writeChunks_147 rfl ?_
      refine aw_imul dX11_writeChunks_148 ?_
      refine aw_iload dX11_writeChunks_149 rfl ?_
      refine aw_iadd dX11_writeChunks_151 ?_
      refine aw_iload dX11_writeChunks_152 rfl ?_
      refine aw_iadd dX11_writeChunks_154 ?_
      obtain ⟨g155, hE⟩ := fgd hE hF
      refine aw_iald (f := dd) dX11_writeChunks_155 at_mdots (vp_in_iff.mpr g155) ?_
      refine aw_iload_n dX11_writeChunks_156 rfl ?_
      refine aw_icmp_ne (tgt := 166) dX11_writeChunks_157 (by decide) (fun c157 => ?_) (fun c157 => ?_)
      · replace hE := fif hE c157
        exact aw_lv _ (List.forall_mem_cons.mpr ⟨rfl, (List.forall_mem_cons.mpr ⟨rfl, (List.forall_mem_cons.mpr ⟨rfl, (List.forall_mem_cons.mpr ⟨rfl, (List.forall_mem_cons.mpr ⟨rfl, (List.forall_mem_cons.mpr ⟨rfl, (List.forall_mem_cons.mpr ⟨rfl, fun _ h => absurd h List.not_mem_nil⟩)⟩)⟩)⟩)⟩)⟩)⟩) (b_X11_writeChunks_166 mo mr ms mt dd wi hi gt ta li sr co hb n  k100 hk100 v1 v2 v3 v4 v5 v6 mw mu sp _ hE hF)
      · replace hE := fit hE c157
        refine aw_iinc (v := (v6 + 1)) (lv2 := [(6, _), (0, _), (1, _), (2, _), (3, _), (4, _), (5, _)]) dX11_writeChunks_160 rfl (incE (by decide)) (by decide) rfl ?_
        refine aw_goto (tgt := 124) dX11_writeChunks_163 (by decide) ?_
        exact aw_lv _ (List.forall_mem_cons.mpr ⟨rfl, (List.forall_mem_cons.mpr ⟨rfl, (List.forall_mem_cons.mpr ⟨rfl, (List.forall_mem_cons.mpr ⟨rfl, (List.forall_mem_cons.mpr ⟨rfl, (List.forall_mem_cons.mpr ⟨rfl, (List.forall_mem_cons.mpr ⟨rfl, fun _ h => absurd h List.not_mem_nil⟩)⟩)⟩)⟩)⟩)⟩)⟩) (hk124 v1 v2 v3 v4 v5 (v6 + 1) mw mu sp _ hE hF)
def F_X11_writeChunks_100 (dd : A) (wi : A) (hi : A) (k100 : Int32 → Int32 → Int32 → Int32 → MW → A → A → Out (MW × A × A) Unit) (v1 : Int32) (v2 : Int32) (v3 : Int32) (v4 : Int32) (mw : MW) (mu : A) (sp : A) : Out (MW × A × A) Unit := if v3 ≤ v4 then (lp (fun _ _ _ _ => fno) (F_X11_writeChunks_249 dd wi hi) FU (0 : Int32) mw mu sp) else (if inb ((4096 * v1) + v4) 16384 then (lp (fun _ _ _ _ _ _ _ _ _ => fno) (F_X11_writeChunks_124 dd wi hi k100) FU v1 v2 v3 v4 (dd (Int32.toNatClampNeg ((4096 * v1) + v4))) (0 : Int32) mw mu sp) else fno)
set_option maxHeartbeats 1000000 in
set_option maxRecDepth 100000 in
theorem b_X11_writeChunks_100 (mo : MO) (mr : MR) (ms : Nat) (mt : A) (dd : A) (wi : A) (hi : A) (gt : A) (ta : A) (li : A) (sr : A) (co : A) (hb : aH) (n : Nat)  (k100 : Int32 → Int32 → Int32 → Int32 → MW → A → A → Out (MW × A × A) Unit) (hk100 : Q_X11_writeChunks_100 mo mr ms mt dd wi hi gt ta li sr co hb n k100) : Q_X11_writeChunks_100 mo mr ms mt dd wi hi gt ta li sr co hb n (F_X11_writeChunks_100 dd wi hi k100) := by
  intro v1 v2 v3 v4 mw mu sp res hE hF
  unfold F_X11_writeChunks_100 at hE
  refine aw_iload dX11_writeChunks_100 rfl ?_
  refine aw_iload_n dX11_writeChunks_102 rfl ?_
  refine aw_icmp_ge (tgt := 246) dX11_writeChunks_103 (by decide) (fun c103 => ?_) (fun c103 => ?_)
  · replace hE := fit hE c103
    refine aw_iconst (v := 0) dX11_writeChunks_246 (by decide) ?_
    refine aw_istore (lv2 := [(5, _), (0, _), (1, _), (2, _), (3, _), (4, _)]) dX11_writeChunks_247 (by decide) rfl ?_
    exact aw_lv _ (List.forall_mem_cons.mpr ⟨rfl, (List.forall_mem_cons.mpr ⟨rfl, fun _ h => absurd h List.not_mem_nil⟩)⟩) (lp_ind (Q_X11_writeChunks_249 mo mr ms mt dd wi hi gt ta li sr co hb n) (fun _ _ _ _ res hq hF => (hF hq.symm).elim) (fun k hk => b_X11_writeChunks_249 mo mr ms mt dd wi hi gt ta li sr co hb n   k hk) FU (0 : Int32) mw mu sp _ hE hF)
  · replace hE := fif hE c103
    refine aw_aload_n dX11_writeChunks_106 rfl ?_
    refine aw_getf (v := .ref 34) dX11_writeChunks_107 flX11_17_10 at_mod rfl ?_
    refine aw_sipush (v := 4096) dX11_writeChunks_110 (by decide) ?_
    refine aw_iload_n dX11_writeChunks_113 rfl ?_
    refine aw_imul dX11_writeChunks_114 ?_
    refine aw_iload dX11_writeChunks_115 rfl ?_
    refine aw_iadd dX11_writeChunks_117 ?_
    obtain ⟨g118, hE⟩ := fgd hE hF
    refine aw_iald (f := dd) dX11_writeChunks_118 at_mdots (vp_in_iff.mpr g118) ?_
    refine aw_istore (lv2 := [(5, _), (0, _), (1, _), (2, _), (3, _), (4, _)]) dX11_writeChunks_119 (by decide) rfl ?_
    refine aw_iconst (v := 0) dX11_writeChunks_121 (by decide) ?_
    refine aw_istore (lv2 := [(6, _), (5, _), (0, _), (1, _), (2, _), (3, _), (4, _)]) dX11_writeChunks_122 (by decide) rfl ?_
    exact aw_lv _ (List.forall_mem_cons.mpr ⟨rfl, (List.forall_mem_cons.mpr ⟨rfl, (List.forall_mem_cons.mpr ⟨rfl, (List.forall_mem_cons.mpr ⟨rfl, (List.forall_mem_cons.mpr ⟨rfl, (List.forall_mem_cons.mpr ⟨rfl, (List.forall_mem_cons.mpr ⟨rfl, fun _ h => absurd h List.not_mem_nil⟩)⟩)⟩)⟩)⟩)⟩)⟩) (lp_ind (Q_X11_writeChunks_124 mo mr ms mt dd wi hi gt ta li sr co hb n) (fun _ _ _ _ _ _ _ _ _ res hq hF => (hF hq.symm).elim) (fun k hk => b_X11_writeChunks_124 mo mr ms mt dd wi hi gt ta li sr co hb n  k100 hk100 k hk) FU v1 v2 v3 v4 (dd (Int32.toNatClampNeg ((4096 * v1) + v4))) (0 : Int32) mw mu sp _ hE hF)
def F_X11_writeChunks_68 (dd : A) (wi : A) (hi : A) (k68 : Int32 → Int32 → MW → A → A → Out (MW × A × A) Unit) (v1 : Int32) (v2 : Int32) (mw : MW) (mu : A) (sp : A) : Out (MW × A × A) Unit := if 64 ≤ v2 then (fon (F_X11_many v1 wi hi) (fun z93 s93 => lp (fun _ _ _ _ _ _ _ => fno) (F_X11_writeChunks_100 dd wi hi) FU v1 (255 : Int32) z93 (0 : Int32) mw mu sp) (fun _ _ => fno)) else (if inb v2 64 then (k68 v1 (v2 + 1) mw mu (upd sp (Int32.toNatClampNeg v2) 0)) else fno)
set_option maxHeartbeats 1000000 in
set_option maxRecDepth 100000 in
theorem b_X11_writeChunks_68 (mo : MO) (mr : MR) (ms : Nat) (mt : A) (dd : A) (wi : A) (hi : A) (gt : A) (ta : A) (li : A) (sr : A) (co : A) (hb : aH) (n : Nat)  (k68 : Int32 → Int32 → MW → A → A → Out (MW × A × A) Unit) (hk68 : Q_X11_writeChunks_68 mo mr ms mt dd wi hi gt ta li sr co hb n k68) : Q_X11_writeChunks_68 mo mr ms mt dd wi hi gt ta li sr co hb n (F_X11_writeChunks_68 dd wi hi k68) := by
  intro v1 v2 mw mu sp res hE hF
  unfold F_X11_writeChunks_68 at hE
  refine aw_iload_n dX11_writeChunks_68 rfl ?_
  refine aw_bipush (v := 64) dX11_writeChunks_69 (by decide) ?_
  refine aw_icmp_ge (tgt := 87) dX11_writeChunks_71 (by decide) (fun c71 => ?_) (fun c71 => ?_)
  · replace hE := fit hE c71
    refine aw_sipush (v := 255) dX11_writeChunks_87 (by decide) ?_
    refine aw_istore_n (lv2 := [(2, _), (0, _), (1, _)]) dX11_writeChunks_90 (by decide) rfl ?_
    refine aw_aload_n dX11_writeChunks_91 rfl ?_
    refine aw_iload_n dX11_writeChunks_92 rfl ?_
    refine aw_callV dX11_writeChunks_93 at_mod cvX11_256 rfl (kF_X11_many mo mw mr ms mt mu dd wi hi gt sp ta li sr co hb _  v1 (fon_ne hE hF)) rfl (Nat.le_of_ble_eq_true rfl) (by decide) (by decide) (by decide) (by decide) (fun _ _ _ hf => False.elim hf) (fun r93 h93 n93 hp93 => ?_)
    obtain ⟨z93, s93, e93, rfl, rfl, rfl⟩ := hp93
    replace hE := fon_ok e93 hE
    refine aw_istore_n (lv2 := [(3, _), (2, _), (0, _), (1, _)]) dX11_writeChunks_96 (by decide) rfl ?_
    refine aw_iconst (v := 0) dX11_writeChunks_97 (by decide) ?_
    refine aw_istore (lv2 := [(4, _), (3, _), (2, _), (0, _), (1, _)]) dX11_writeChunks_98 (by decide) rfl ?_
    exact aw_lv _ (List.forall_mem_cons.mpr ⟨rfl, (List.forall_mem_cons.mpr ⟨rfl, (List.forall_mem_cons.mpr ⟨rfl, (List.forall_mem_cons.mpr ⟨rfl, (List.forall_mem_cons.mpr ⟨rfl, fun _ h => absurd h List.not_mem_nil⟩)⟩)⟩)⟩)⟩) (lp_ind (Q_X11_writeChunks_100 mo mr ms mt dd wi hi gt ta li sr co hb n) (fun _ _ _ _ _ _ _ res hq hF => (hF hq.symm).elim) (fun k hk => b_X11_writeChunks_100 mo mr ms mt dd wi hi gt ta li sr co hb n   k hk) FU v1 (255 : Int32) z93 (0 : Int32) mw mu sp _ hE hF)
  · replace hE := fif hE c71
    refine aw_aload_n dX11_writeChunks_74 rfl ?_
    refine aw_getf (v := .ref 38) dX11_writeChunks_75 flX11_46_10 at_mod rfl ?_
    refine aw_iload_n dX11_writeChunks_78 rfl ?_
    refine aw_iconst (v := 0) dX11_writeChunks_79 (by decide) ?_
    obtain ⟨g80, hE⟩ := fgd hE hF
    refine aw_iast (f := sp) dX11_writeChunks_80 at_mspots (vp_in_iff.mpr g80) ?_
    refine aw_eqh (h2 := HM mo mw mr ms mt mu dd wi hi gt (upd sp (Int32.toNatClampNeg v2) 0) ta li sr co hb) up_mspots ?_
    refine aw_iinc (v := (v2 + 1)) (lv2 := [(2, _), (0, _), (1, _)]) dX11_writeChunks_81 rfl (incE (by decide)) (by decide) rfl ?_
    refine aw_goto (tgt := 68) dX11_writeChunks_84 (by decide) ?_
    exact aw_lv _ (List.forall_mem_cons.mpr ⟨rfl, (List.forall_mem_cons.mpr ⟨rfl, (List.forall_mem_cons.mpr ⟨rfl, fun _ h => absurd h List.not_mem_nil⟩)⟩)⟩) (hk68 v1 (v2 + 1) mw mu (upd sp (Int32.toNatClampNeg v2) 0) _ hE hF)
def F_X11_writeChunks_58 (dd : A) (wi : A) (hi : A)  (v1 : Int32) (t0 : Int32) (mw : MW) (mu : A) (sp : A) : Out (MW × A × A) Unit := fon (F_X11_put_ t0 mw mu) (fun z58 s58 => fon (F_X11_put_ 0 s58.1 s58.2) (fun z63 s63 => lp (fun _ _ _ _ _ => fno) (F_X11_writeChunks_68 dd wi hi) FU v1 (0 : Int32) s63.1 s63.2 sp) (fun _ _ => fno)) (fun _ _ => fno)
set_option maxHeartbeats 1000000 in
set_option maxRecDepth 100000 in
theorem b_X11_writeChunks_58 (mo : MO) (mr : MR) (ms : Nat) (mt : A) (dd : A) (wi : A) (hi : A) (gt : A) (ta : A) (li : A) (sr : A) (co : A) (hb : aH) (n : Nat)   : Q_X11_writeChunks_58 mo mr ms mt dd wi hi gt ta li sr co hb n (F_X11_writeChunks_58 dd wi hi) := by
  intro v1 t0 mw mu sp res hE hF
  unfold F_X11_writeChunks_58 at hE
  refine aw_callV dX11_writeChunks_58 at_mod cvX11_280 rfl (kF_X11_put_ mo mw mr ms mt mu dd wi hi gt sp ta li sr co hb _  t0 (fon_ne hE hF)) rfl (Nat.le_of_ble_eq_true rfl) (by decide) (by decide) (by decide) (by decide) (fun _ _ _ hf => False.elim hf) (fun r58 h58 n58 hp58 => ?_)
  obtain ⟨z58, s58, e58, rfl, rfl, rfl⟩ := hp58
  replace hE := fon_ok e58 hE
  refine aw_aload_n dX11_writeChunks_61 rfl ?_
  refine aw_iconst (v := 0) dX11_writeChunks_62 (by decide) ?_
  refine aw_callV dX11_writeChunks_63 at_mod cvX11_280 rfl (kF_X11_put_ mo s58.1 mr ms mt s58.2 dd wi hi gt sp ta li sr co hb _  0 (fon_ne hE hF)) rfl (Nat.le_of_ble_eq_true rfl) (by decide) (by decide) (by decide) (by decide) (fun _ _ _ hf => False.elim hf) (fun r63 h63 n63 hp63 => ?_)
  obtain ⟨z63, s63, e63, rfl, rfl, rfl⟩ := hp63
  replace hE := fon_ok e63 hE
  refine aw_iconst (v := 0) dX11_writeChunks_66 (by decide) ?_
  refine aw_istore_n (lv2 := [(2, _), (0, _), (1, _)]) dX11_writeChunks_67 (by decide) rfl ?_
  exact aw_lv _ (List.forall_mem_cons.mpr ⟨rfl, (List.forall_mem_cons.mpr ⟨rfl, (List.forall_mem_cons.mpr ⟨rfl, fun _ h => absurd h List.not_mem_nil⟩)⟩)⟩) (lp_ind (Q_X11_writeChunks_68 mo mr ms mt dd wi hi gt ta li sr co hb n) (fun _ _ _ _ _ res hq hF => (hF hq.symm).elim) (fun k hk => b_X11_writeChunks_68 mo mr ms mt dd wi hi gt ta li sr co hb n   k hk) FU v1 (0 : Int32) s63.1 s63.2 sp _ hE hF)
def F_X11_writeChunks (a1 : Int32) (mw : MW) (mu : A) (dd : A) (wi : A) (hi : A) (sp : A) : Out (MW × A × A) Unit := fon (F_X11_put_ 113 mw mu) (fun z3 s3 => fon (F_X11_put_ 111 s3.1 s3.2) (fun z9 s9 => fon (F_X11_put_ 105 s9.1 s9.2) (fun z15 s15 => fon (F_X11_put_ 102 s15.1 s15.2) (fun z21 s21 => if inb a1 4 then (fon (F_X11_putTop (wi (Int32.toNatClampNeg a1)) s21.1 s21.2) (fun z31 s31 => if inb a1 4 then (fon (F_X11_putTop (hi (Int32.toNatClampNeg a1)) s31.1 s31.2) (fun z41 s41 => fon (F_X11_isOpaque a1 dd wi hi) (fun z47 s47 => if z47 = 0 then (F_X11_writeChunks_58 dd wi hi a1 (4 : Int32) s41.1 s41.2 sp) else (F_X11_writeChunks_58 dd wi hi a1 (3 : Int32) s41.1 s41.2 sp)) (fun _ _ => fno)) (fun _ _ => fno)) else fno) (fun _ _ => fno)) else fno) (fun _ _ => fno)) (fun _ _ => fno)) (fun _ _ => fno)) (fun _ _ => fno)
set_option maxHeartbeats 1000000 in
set_option maxRecDepth 100000 in
theorem kF_X11_writeChunks (mo : MO) (mw : MW) (mr : MR) (ms : Nat) (mt : A) (mu : A) (dd : A) (wi : A) (hi : A) (gt : A) (sp : A) (ta : A) (li : A) (sr : A) (co : A) (hb : aH) (n : Nat)  (a1 : Int32) (hF : F_X11_writeChunks a1 mw mu dd wi hi sp ≠ fno) : AM mX11_writeChunks 3 [.ref 31, .int a1] (HM mo mw mr ms mt mu dd wi hi gt sp ta li sr co hb) n 0 0 0 0 (P_X11_writeChunks mo mr ms mt dd wi hi gt ta li sr co hb n (F_X11_writeChunks a1 mw mu dd wi hi sp)) (fun _ _ _ => False) := by
  generalize hE : F_X11_writeChunks a1 mw mu dd wi hi sp = res at hF ⊢
  refine aw_of (by decide +kernel) rfl (Nat.le_of_ble_eq_true rfl) ?_
  unfold F_X11_writeChunks at hE
  refine aw_aload_n dX11_writeChunks_0 rfl ?_
  refine aw_bipush (v := 113) dX11_writeChunks_1 (by decide) ?_
  refine aw_callV dX11_writeChunks_3 at_mod cvX11_280 rfl (kF_X11_put_ mo mw mr ms mt mu dd wi hi gt sp ta li sr co hb _  113 (fon_ne hE hF)) rfl (Nat.le_of_ble_eq_true rfl) (by decide) (by decide) (by decide) (by decide) (fun _ _ _ hf => False.elim hf) (fun r3 h3 n3 hp3 => ?_)
  obtain ⟨z3, s3, e3, rfl, rfl, rfl⟩ := hp3
  replace hE := fon_ok e3 hE
  refine aw_aload_n dX11_writeChunks_6 rfl ?_
  refine aw_bipush (v := 111) dX11_writeChunks_7 (by decide) ?_
  refine aw_callV dX11_writeChunks_9 at_mod cvX11_280 rfl (kF_X11_put_ mo s3.1 mr ms mt s3.2 dd wi hi gt sp ta li sr co hb _  111 (fon_ne hE hF)) rfl (Nat.le_of_ble_eq_true rfl) (by decide) (by decide) (by decide) (by decide) (fun _ _ _ hf => False.elim hf) (fun r9 h9 n9 hp9 => ?_)
  obtain ⟨z9, s9, e9, rfl, rfl, rfl⟩ := hp9
  replace hE := fon_ok e9 hE
  refine aw_aload_n dX11_writeChunks_12 rfl ?_
  refine aw_bipush (v := 105) dX11_writeChunks_13 (by decide) ?_
  refine aw_callV dX11_writeChunks_15 at_mod cvX11_280 rfl (kF_X11_put_ mo s9.1 mr ms mt s9.2 dd wi hi gt sp ta li sr co hb _  105 (fon_ne hE hF)) rfl (Nat.le_of_ble_eq_true rfl) (by decide) (by decide) (by decide) (by decide) (fun _ _ _ hf => False.elim hf) (fun r15 h15 n15 hp15 => ?_)
  obtain ⟨z15, s15, e15, rfl, rfl, rfl⟩ := hp15
  replace hE := fon_ok e15 hE
  refine aw_aload_n dX11_writeChunks_18 rfl ?_
  refine aw_bipush (v := 102) dX11_writeChunks_19 (by decide) ?_
  refine aw_callV dX11_writeChunks_21 at_mod cvX11_280 rfl (kF_X11_put_ mo s15.1 mr ms mt s15.2 dd wi hi gt sp ta li sr co hb _  102 (fon_ne hE hF)) rfl (Nat.le_of_ble_eq_true rfl) (by decide) (by decide) (by decide) (by decide) (fun _ _ _ hf => False.elim hf) (fun r21 h21 n21 hp21 => ?_)
  obtain ⟨z21, s21, e21, rfl, rfl, rfl⟩ := hp21
  replace hE := fon_ok e21 hE
  refine aw_aload_n dX11_writeChunks_24 rfl ?_
  refine aw_aload_n dX11_writeChunks_25 rfl ?_
  refine aw_getf (v := .ref 35) dX11_writeChunks_26 flX11_21_10 at_mod rfl ?_
  refine aw_iload_n dX11_writeChunks_29 rfl ?_
  obtain ⟨g30, hE⟩ := fgd hE hF
  refine aw_iald (f := wi) dX11_writeChunks_30 at_mwide (vp_in_iff.mpr g30) ?_
  refine aw_callV dX11_writeChunks_31 at_mod cvX11_285 rfl (kF_X11_putTop mo s21.1 mr ms mt s21.2 dd wi hi gt sp ta li sr co hb _  (wi (Int32.toNatClampNeg a1)) (fon_ne hE hF)) rfl (Nat.le_of_ble_eq_true rfl) (by decide) (by decide) (by decide) (by decide) (fun _ _ _ hf => False.elim hf) (fun r31 h31 n31 hp31 => ?_)
  obtain ⟨z31, s31, e31, rfl, rfl, rfl⟩ := hp31
  replace hE := fon_ok e31 hE
  refine aw_aload_n dX11_writeChunks_34 rfl ?_
  refine aw_aload_n dX11_writeChunks_35 rfl ?_
  refine aw_getf (v := .ref 36) dX11_writeChunks_36 flX11_24_10 at_mod rfl ?_
  refine aw_iload_n dX11_writeChunks_39 rfl ?_
  obtain ⟨g40, hE⟩ := fgd hE hF
  refine aw_iald (f := hi) dX11_writeChunks_40 at_mhigh (vp_in_iff.mpr g40) ?_
  refine aw_callV dX11_writeChunks_41 at_mod cvX11_285 rfl (kF_X11_putTop mo s31.1 mr ms mt s31.2 dd wi hi gt sp ta li sr co hb _  (hi (Int32.toNatClampNeg a1)) (fon_ne hE hF)) rfl (Nat.le_of_ble_eq_true rfl) (by decide) (by decide) (by decide) (by decide) (fun _ _ _ hf => False.elim hf) (fun r41 h41 n41 hp41 => ?_)
  obtain ⟨z41, s41, e41, rfl, rfl, rfl⟩ := hp41
  replace hE := fon_ok e41 hE
  refine aw_aload_n dX11_writeChunks_44 rfl ?_
  refine aw_aload_n dX11_writeChunks_45 rfl ?_
  refine aw_iload_n dX11_writeChunks_46 rfl ?_
  refine aw_callV dX11_writeChunks_47 at_mod cvX11_271 rfl (kF_X11_isOpaque mo s41.1 mr ms mt s41.2 dd wi hi gt sp ta li sr co hb _  a1 (fon_ne hE hF)) rfl (Nat.le_of_ble_eq_true rfl) (by decide) (by decide) (by decide) (by decide) (fun _ _ _ hf => False.elim hf) (fun r47 h47 n47 hp47 => ?_)
  obtain ⟨z47, s47, e47, rfl, rfl, rfl⟩ := hp47
  replace hE := fon_ok e47 hE
  refine aw_if_eq (tgt := 57) dX11_writeChunks_50 (by decide) (fun c50 => ?_) (fun c50 => ?_)
  · replace hE := fit hE c50
    refine aw_iconst (v := 4) dX11_writeChunks_57 (by decide) ?_
    exact aw_lv _ (List.forall_mem_cons.mpr ⟨rfl, (List.forall_mem_cons.mpr ⟨rfl, fun _ h => absurd h List.not_mem_nil⟩)⟩) (b_X11_writeChunks_58 mo mr ms mt dd wi hi gt ta li sr co hb n   a1 (4 : Int32) s41.1 s41.2 sp _ hE hF)
  · replace hE := fif hE c50
    refine aw_iconst (v := 3) dX11_writeChunks_53 (by decide) ?_
    refine aw_goto (tgt := 58) dX11_writeChunks_54 (by decide) ?_
    exact aw_lv _ (List.forall_mem_cons.mpr ⟨rfl, (List.forall_mem_cons.mpr ⟨rfl, fun _ h => absurd h List.not_mem_nil⟩)⟩) (b_X11_writeChunks_58 mo mr ms mt dd wi hi gt ta li sr co hb n   a1 (3 : Int32) s41.1 s41.2 sp _ hE hF)
def P_X11_listColours (mo : MO) (mr : MR) (ms : Nat) (mt : A) (mu : A) (dd : A) (wi : A) (hi : A) (gt : A) (sp : A) (ta : A) (li : A) (sr : A) (hb : aH) (n : Nat) (res : Out (MW × A) Unit) : Option Value → aH → Nat → Prop := fun r1 h2 n2 => ∃ (a : Unit) (s : (MW × A)), res = fok a s ∧ r1 = none ∧ h2 = HM mo s.1 mr ms mt mu dd wi hi gt sp ta li sr s.2 hb ∧ n = n2
abbrev Q_X11_listColours_7 (mo : MO) (mr : MR) (ms : Nat) (mt : A) (mu : A) (dd : A) (wi : A) (hi : A) (gt : A) (sp : A) (ta : A) (li : A) (sr : A) (hb : aH) (n : Nat) (k : Int32 → Int32 → MW → A → Out (MW × A) Unit) : Prop := ∀ (v1 : Int32) (v2 : Int32) (mw : MW) (co : A) (res : Out (MW × A) Unit), k v1 v2 mw co = res → res ≠ fno → AW (fun _ _ => True) mX11_listColours (rmD 2 0 0) 0 0 (P_X11_listColours mo mr ms mt mu dd wi hi gt sp ta li sr hb n res) (fun _ _ _ => False) 0 0 7 [(0, .ref 31), (1, .int v1), (2, .int v2)] [] (HM mo mw mr ms mt mu dd wi hi gt sp ta li sr co hb) n
abbrev Q_X11_listColours_57 (mo : MO) (mr : MR) (ms : Nat) (mt : A) (mu : A) (dd : A) (wi : A) (hi : A) (gt : A) (sp : A) (ta : A) (li : A) (sr : A) (hb : aH) (n : Nat) (k : Int32 → Int32 → MW → A → Out (MW × A) Unit) : Prop := ∀ (v1 : Int32) (v2 : Int32) (mw : MW) (co : A) (res : Out (MW × A) Unit), k v1 v2 mw co = res → res ≠ fno → AW (fun _ _ => True) mX11_listColours (rmD 2 0 0) 0 0 (P_X11_listColours mo mr ms mt mu dd wi hi gt sp ta li sr hb n res) (fun _ _ _ => False) 0 0 57 [(0, .ref 31), (1, .int v1), (2, .int v2)] [] (HM mo mw mr ms mt mu dd wi hi gt sp ta li sr co hb) n
def F_X11_listColours_57 (dd : A) (wi : A) (hi : A) (k7 : Int32 → Int32 → MW → A → Out (MW × A) Unit) (v1 : Int32) (v2 : Int32) (mw : MW) (co : A) : Out (MW × A) Unit := k7 v1 (v2 + 1) mw co
set_option maxHeartbeats 1000000 in
set_option maxRecDepth 100000 in
theorem b_X11_listColours_57 (mo : MO) (mr : MR) (ms : Nat) (mt : A) (mu : A) (dd : A) (wi : A) (hi : A) (gt : A) (sp : A) (ta : A) (li : A) (sr : A) (hb : aH) (n : Nat)  (k7 : Int32 → Int32 → MW → A → Out (MW × A) Unit) (hk7 : Q_X11_listColours_7 mo mr ms mt mu dd wi hi gt sp ta li sr hb n k7) : Q_X11_listColours_57 mo mr ms mt mu dd wi hi gt sp ta li sr hb n (F_X11_listColours_57 dd wi hi k7) := by
  intro v1 v2 mw co res hE hF
  unfold F_X11_listColours_57 at hE
  refine aw_iinc (v := (v2 + 1)) (lv2 := [(2, _), (0, _), (1, _)]) dX11_listColours_57 rfl (incE (by decide)) (by decide) rfl ?_
  refine aw_goto (tgt := 7) dX11_listColours_60 (by decide) ?_
  exact aw_lv _ (List.forall_mem_cons.mpr ⟨rfl, (List.forall_mem_cons.mpr ⟨rfl, (List.forall_mem_cons.mpr ⟨rfl, fun _ h => absurd h List.not_mem_nil⟩)⟩)⟩) (hk7 v1 (v2 + 1) mw co _ hE hF)
def F_X11_listColours_7 (dd : A) (wi : A) (hi : A) (k7 : Int32 → Int32 → MW → A → Out (MW × A) Unit) (v1 : Int32) (v2 : Int32) (mw : MW) (co : A) : Out (MW × A) Unit := fon (F_X11_many v1 wi hi) (fun z10 s10 => if z10 ≤ v2 then (fok () (mw, co)) else (if inb ((4096 * v1) + v2) 16384 then (fon (F_X11_colourOf (dd (Int32.toNatClampNeg ((4096 * v1) + v2))) mw co) (fun z31 s31 => if 0 ≤ z31 then (F_X11_listColours_57 dd wi hi k7 v1 v2 mw co) else (if inb (mw_cm mw) 256 then (F_X11_listColours_57 dd wi hi k7 v1 v2 ((mw_om mw), (mw_ho mw), ((mw_cm mw) + 1)) (upd co (Int32.toNatClampNeg (mw_cm mw)) (dd (Int32.toNatClampNeg ((4096 * v1) + v2))))) else fno)) (fun _ _ => fno)) else fno)) (fun _ _ => fno)
set_option maxHeartbeats 1000000 in
set_option maxRecDepth 100000 in
theorem b_X11_listColours_7 (mo : MO) (mr : MR) (ms : Nat) (mt : A) (mu : A) (dd : A) (wi : A) (hi : A) (gt : A) (sp : A) (ta : A) (li : A) (sr : A) (hb : aH) (n : Nat)  (k7 : Int32 → Int32 → MW → A → Out (MW × A) Unit) (hk7 : Q_X11_listColours_7 mo mr ms mt mu dd wi hi gt sp ta li sr hb n k7) : Q_X11_listColours_7 mo mr ms mt mu dd wi hi gt sp ta li sr hb n (F_X11_listColours_7 dd wi hi k7) := by
  intro v1 v2 mw co res hE hF
  unfold F_X11_listColours_7 at hE
  refine aw_iload_n dX11_listColours_7 rfl ?_
  refine aw_aload_n dX11_listColours_8 rfl ?_
  refine aw_iload_n dX11_listColours_9 rfl ?_
  refine aw_callV dX11_listColours_10 at_mod cvX11_256 rfl (kF_X11_many mo mw mr ms mt mu dd wi hi gt sp ta li sr co hb _  v1 (fon_ne hE hF)) rfl (Nat.le_of_ble_eq_true rfl) (by decide) (by decide) (by decide) (by decide) (fun _ _ _ hf => False.elim hf) (fun r10 h10 n10 hp10 => ?_)
  obtain ⟨z10, s10, e10, rfl, rfl, rfl⟩ := hp10
  replace hE := fon_ok e10 hE
  refine aw_icmp_ge (tgt := 63) dX11_listColours_13 (by decide) (fun c13 => ?_) (fun c13 => ?_)
  · replace hE := fit hE c13
    exact aw_vret dX11_listColours_63 rfl (Nat.zero_le _) (Nat.zero_le _) (Nat.zero_le _) (Nat.zero_le _) ⟨_, _, hE.symm, rfl, rfl, rfl⟩
  · replace hE := fif hE c13
    refine aw_aload_n dX11_listColours_16 rfl ?_
    refine aw_getf (v := .ref 34) dX11_listColours_17 flX11_17_10 at_mod rfl ?_
    refine aw_sipush (v := 4096) dX11_listColours_20 (by decide) ?_
    refine aw_iload_n dX11_listColours_23 rfl ?_
    refine aw_imul dX11_listColours_24 ?_
    refine aw_iload_n dX11_listColours_25 rfl ?_
    refine aw_iadd dX11_listColours_26 ?_
    obtain ⟨g27, hE⟩ := fgd hE hF
    refine aw_iald (f := dd) dX11_listColours_27 at_mdots (vp_in_iff.mpr g27) ?_
    refine aw_istore_n (lv2 := [(3, _), (0, _), (1, _), (2, _)]) dX11_listColours_28 (by decide) rfl ?_
    refine aw_aload_n dX11_listColours_29 rfl ?_
    refine aw_iload_n dX11_listColours_30 rfl ?_
    refine aw_callV dX11_listColours_31 at_mod cvX11_265 rfl (kF_X11_colourOf mo mw mr ms mt mu dd wi hi gt sp ta li sr co hb _  (dd (Int32.toNatClampNeg ((4096 * v1) + v2))) (fon_ne hE hF)) rfl (Nat.le_of_ble_eq_true rfl) (by decide) (by decide) (by decide) (by decide) (fun _ _ _ hf => False.elim hf) (fun r31 h31 n31 hp31 => ?_)
    obtain ⟨z31, s31, e31, rfl, rfl, rfl⟩ := hp31
    replace hE := fon_ok e31 hE
    refine aw_if_ge (tgt := 57) dX11_listColours_34 (by decide) (fun c34 => ?_) (fun c34 => ?_)
    · replace hE := fit hE c34
      exact aw_lv _ (List.forall_mem_cons.mpr ⟨rfl, (List.forall_mem_cons.mpr ⟨rfl, (List.forall_mem_cons.mpr ⟨rfl, fun _ h => absurd h List.not_mem_nil⟩)⟩)⟩) (b_X11_listColours_57 mo mr ms mt mu dd wi hi gt sp ta li sr hb n  k7 hk7 v1 v2 mw co _ hE hF)
    · replace hE := fif hE c34
      refine aw_aload_n dX11_listColours_37 rfl ?_
      refine aw_getf (v := .ref 42) dX11_listColours_38 flX11_58_10 at_mod rfl ?_
      refine aw_aload_n dX11_listColours_41 rfl ?_
      refine aw_getf (v := .int (mw_cm mw)) dX11_listColours_42 flX11_262_10 at_mod rfl ?_
      refine aw_iload_n dX11_listColours_45 rfl ?_
      obtain ⟨g46, hE⟩ := fgd hE hF
      refine aw_iast (f := co) dX11_listColours_46 at_mcols (vp_in_iff.mpr g46) ?_
      refine aw_eqh (h2 := HM mo mw mr ms mt mu dd wi hi gt sp ta li sr (upd co (Int32.toNatClampNeg (mw_cm mw)) (dd (Int32.toNatClampNeg ((4096 * v1) + v2)))) hb) up_mcols ?_
      refine aw_aload_n dX11_listColours_47 rfl ?_
      refine aw_dup dX11_listColours_48 rfl ?_
      refine aw_getf (v := .int (mw_cm mw)) dX11_listColours_49 flX11_262_10 at_mod rfl ?_
      refine aw_iconst (v := 1) dX11_listColours_52 (by decide) ?_
      refine aw_iadd dX11_listColours_53 ?_
      refine aw_putf dX11_listColours_54 ptX11_262_10 at_mod (Nat.le_of_ble_eq_true rfl) ⟨rfl, rfl⟩ ?_
      refine aw_eqh (h2 := HM mo ((mw_om mw), (mw_ho mw), ((mw_cm mw) + 1)) mr ms mt mu dd wi hi gt sp ta li sr (upd co (Int32.toNatClampNeg (mw_cm mw)) (dd (Int32.toNatClampNeg ((4096 * v1) + v2)))) hb) up_mod ?_
      exact aw_lv _ (List.forall_mem_cons.mpr ⟨rfl, (List.forall_mem_cons.mpr ⟨rfl, (List.forall_mem_cons.mpr ⟨rfl, fun _ h => absurd h List.not_mem_nil⟩)⟩)⟩) (b_X11_listColours_57 mo mr ms mt mu dd wi hi gt sp ta li sr hb n  k7 hk7 v1 v2 ((mw_om mw), (mw_ho mw), ((mw_cm mw) + 1)) (upd co (Int32.toNatClampNeg (mw_cm mw)) (dd (Int32.toNatClampNeg ((4096 * v1) + v2)))) _ hE hF)
def F_X11_listColours (a1 : Int32) (mw : MW) (dd : A) (wi : A) (hi : A) (co : A) : Out (MW × A) Unit := lp (fun _ _ _ _ => fno) (F_X11_listColours_7 dd wi hi) FU a1 (0 : Int32) ((mw_om mw), (mw_ho mw), 0) co
set_option maxHeartbeats 1000000 in
set_option maxRecDepth 100000 in
theorem kF_X11_listColours (mo : MO) (mw : MW) (mr : MR) (ms : Nat) (mt : A) (mu : A) (dd : A) (wi : A) (hi : A) (gt : A) (sp : A) (ta : A) (li : A) (sr : A) (co : A) (hb : aH) (n : Nat)  (a1 : Int32) (hF : F_X11_listColours a1 mw dd wi hi co ≠ fno) : AM mX11_listColours 2 [.ref 31, .int a1] (HM mo mw mr ms mt mu dd wi hi gt sp ta li sr co hb) n 0 0 0 0 (P_X11_listColours mo mr ms mt mu dd wi hi gt sp ta li sr hb n (F_X11_listColours a1 mw dd wi hi co)) (fun _ _ _ => False) := by
  generalize hE : F_X11_listColours a1 mw dd wi hi co = res at hF ⊢
  refine aw_of (by decide +kernel) rfl (Nat.le_of_ble_eq_true rfl) ?_
  unfold F_X11_listColours at hE
  refine aw_aload_n dX11_listColours_0 rfl ?_
  refine aw_iconst (v := 0) dX11_listColours_1 (by decide) ?_
  refine aw_putf dX11_listColours_2 ptX11_262_10 at_mod (Nat.le_of_ble_eq_true rfl) ⟨rfl, rfl⟩ ?_
  refine aw_eqh (h2 := HM mo ((mw_om mw), (mw_ho mw), 0) mr ms mt mu dd wi hi gt sp ta li sr co hb) up_mod ?_
  refine aw_iconst (v := 0) dX11_listColours_5 (by decide) ?_
  refine aw_istore_n (lv2 := [(2, _), (0, _), (1, _)]) dX11_listColours_6 (by decide) rfl ?_
  exact aw_lv _ (List.forall_mem_cons.mpr ⟨rfl, (List.forall_mem_cons.mpr ⟨rfl, (List.forall_mem_cons.mpr ⟨rfl, fun _ h => absurd h List.not_mem_nil⟩)⟩)⟩) (lp_ind (Q_X11_listColours_7 mo mr ms mt mu dd wi hi gt sp ta li sr hb n) (fun _ _ _ _ res hq hF => (hF hq.symm).elim) (fun k hk => b_X11_listColours_7 mo mr ms mt mu dd wi hi gt sp ta li sr hb n   k hk) FU a1 (0 : Int32) ((mw_om mw), (mw_ho mw), 0) co _ hE hF)
