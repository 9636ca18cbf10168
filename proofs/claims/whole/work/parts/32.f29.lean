def P_X11_writePlanes (mo : MO) (mr : MR) (ms : Nat) (mt : A) (dd : A) (wi : A) (hi : A) (gt : A) (sp : A) (ta : A) (li : A) (sr : A) (hb : aH) (n : Nat) (res : Out (MW × A × A) Unit) : Option Value → aH → Nat → Prop := fun r1 h2 n2 => ∃ (a : Unit) (s : (MW × A × A)), res = fok a s ∧ r1 = none ∧ h2 = HM mo s.1 mr ms mt s.2.1 dd wi hi gt sp ta li sr s.2.2 hb ∧ n = n2
abbrev Q_X11_writePlanes_11 (mo : MO) (mr : MR) (ms : Nat) (mt : A) (dd : A) (wi : A) (hi : A) (gt : A) (sp : A) (ta : A) (li : A) (sr : A) (hb : aH) (n : Nat) (k : Int32 → Int32 → Int32 → MW → A → A → Out (MW × A × A) Unit) : Prop := ∀ (v1 : Int32) (v2 : Int32) (t0 : Int32) (mw : MW) (mu : A) (co : A) (res : Out (MW × A × A) Unit), k v1 v2 t0 mw mu co = res → res ≠ fno → AW (fun _ _ => True) mX11_writePlanes (rmD 3 0 0) 0 0 (P_X11_writePlanes mo mr ms mt dd wi hi gt sp ta li sr hb n res) (fun _ _ _ => False) 0 0 11 [(0, .ref 31), (1, .int v1), (2, .int v2)] [.int t0] (HM mo mw mr ms mt mu dd wi hi gt sp ta li sr co hb) n
abbrev Q_X11_writePlanes_100 (mo : MO) (mr : MR) (ms : Nat) (mt : A) (dd : A) (wi : A) (hi : A) (gt : A) (sp : A) (ta : A) (li : A) (sr : A) (hb : aH) (n : Nat) (k : Int32 → Int32 → Int32 → Int32 → Int32 → MW → A → A → Out (MW × A × A) Unit) : Prop := ∀ (v1 : Int32) (v2 : Int32) (v3 : Int32) (v4 : Int32) (v5 : Int32) (mw : MW) (mu : A) (co : A) (res : Out (MW × A × A) Unit), k v1 v2 v3 v4 v5 mw mu co = res → res ≠ fno → AW (fun _ _ => True) mX11_writePlanes (rmD 3 0 0) 0 0 (P_X11_writePlanes mo mr ms mt dd wi hi gt sp ta li sr hb n res) (fun _ _ _ => False) 0 0 100 [(0, .ref 31), (1, .int v1), (2, .int v2), (3, .int v3), (4, .int v4), (5, .int v5)] [] (HM mo mw mr ms mt mu dd wi hi gt sp ta li sr co hb) n
abbrev Q_X11_writePlanes_138 (mo : MO) (mr : MR) (ms : Nat) (mt : A) (dd : A) (wi : A) (hi : A) (gt : A) (sp : A) (ta : A) (li : A) (sr : A) (hb : aH) (n : Nat) (k : Int32 → Int32 → Int32 → Int32 → Int32 → MW → A → A → Out (MW × A × A) Unit) : Prop := ∀ (v1 : Int32) (v2 : Int32) (v3 : Int32) (v4 : Int32) (v5 : Int32) (mw : MW) (mu : A) (co : A) (res : Out (MW × A × A) Unit), k v1 v2 v3 v4 v5 mw mu co = res → res ≠ fno → AW (fun _ _ => True) mX11_writePlanes (rmD 3 0 0) 0 0 (P_X11_writePlanes mo mr ms mt dd wi hi gt sp ta li sr hb n res) (fun _ _ _ => False) 0 0 138 [(0, .ref 31), (1, .int v1), (2, .int v2), (3, .int v3), (4, .int v4), (5, .int v5)] [] (HM mo mw mr ms mt mu dd wi hi gt sp ta li sr co hb) n
abbrev Q_X11_writePlanes_167 (mo : MO) (mr : MR) (ms : Nat) (mt : A) (dd : A) (wi : A) (hi : A) (gt : A) (sp : A) (ta : A) (li : A) (sr : A) (hb : aH) (n : Nat) (k : Int32 → Int32 → Int32 → Int32 → MW → A → A → Out (MW × A × A) Unit) : Prop := ∀ (v1 : Int32) (v2 : Int32) (v3 : Int32) (v4 : Int32) (mw : MW) (mu : A) (co : A) (res : Out (MW × A × A) Unit), k v1 v2 v3 v4 mw mu co = res → res ≠ fno → AW (fun _ _ => True) mX11_writePlanes (rmD 3 0 0) 0 0 (P_X11_writePlanes mo mr ms mt dd wi hi gt sp ta li sr hb n res) (fun _ _ _ => False) 0 0 167 [(0, .ref 31), (1, .int v1), (2, .int v2), (3, .int v3), (4, .int v4)] [] (HM mo mw mr ms mt mu dd wi hi gt sp ta li sr co hb) n
abbrev Q_X11_writePlanes_170 (mo : MO) (mr : MR) (ms : Nat) (mt : A) (dd : A) (wi : A) (hi : A) (gt : A) (sp : A) (ta : A) (li : A) (sr : A) (hb : aH) (n : Nat) (k : Int32 → Int32 → Int32 → Int32 → Int32 → MW → A → A → Out (MW × A × A) Unit) : Prop := ∀ (v1 : Int32) (v2 : Int32) (v3 : Int32) (v4 : Int32) (v5 : Int32) (mw : MW) (mu : A) (co : A) (res : Out (MW × A × A) Unit), k v1 v2 v3 v4 v5 mw mu co = res → res ≠ fno → AW (fun _ _ => True) mX11_writePlanes (rmD 3 0 0) 0 0 (P_X11_writePlanes mo mr ms mt dd wi hi gt sp ta li sr hb n res) (fun _ _ _ => False) 0 0 170 [(0, .ref 31), (1, .int v1), (2, .int v2), (3, .int v3), (4, .int v4), (5, .int v5)] [] (HM mo mw mr ms mt mu dd wi hi gt sp ta li sr co hb) n
abbrev Q_X11_writePlanes_184 (mo : MO) (mr : MR) (ms : Nat) (mt : A) (dd : A) (wi : A) (hi : A) (gt : A) (sp : A) (ta : A) (li : A) (sr : A) (hb : aH) (n : Nat) (k : Int32 → Int32 → Int32 → Int32 → Int32 → Int32 → MW → A → A → Out (MW × A × A) Unit) : Prop := ∀ (v1 : Int32) (v2 : Int32) (v3 : Int32) (v4 : Int32) (v5 : Int32) (v6 : Int32) (mw : MW) (mu : A) (co : A) (res : Out (MW × A × A) Unit), k v1 v2 v3 v4 v5 v6 mw mu co = res → res ≠ fno → AW (fun _ _ => True) mX11_writePlanes (rmD 3 0 0) 0 0 (P_X11_writePlanes mo mr ms mt dd wi hi gt sp ta li sr hb n res) (fun _ _ _ => False) 0 0 184 [(0, .ref 31), (1, .int v1), (2, .int v2), (3, .int v3), (4, .int v4), (5, .int v5), (6, .int v6)] [] (HM mo mw mr ms mt mu dd wi hi gt sp ta li sr co hb) n
abbrev Q_X11_writePlanes_193 (mo : MO) (mr : MR) (ms : Nat) (mt : A) (dd : A) (wi : A) (hi : A) (gt : A) (sp : A) (ta : A) (li : A) (sr : A) (hb : aH) (n : Nat) (k : Int32 → Int32 → Int32 → Int32 → Int32 → Int32 → Int32 → MW → A → A → Out (MW × A × A) Unit) : Prop := ∀ (v1 : Int32) (v2 : Int32) (v3 : Int32) (v4 : Int32) (v5 : Int32) (v6 : Int32) (v7 : Int32) (mw : MW) (mu : A) (co : A) (res : Out (MW × A × A) Unit), k v1 v2 v3 v4 v5 v6 v7 mw mu co = res → res ≠ fno → AW (fun _ _ => True) mX11_writePlanes (rmD 3 0 0) 0 0 (P_X11_writePlanes mo mr ms mt dd wi hi gt sp ta li sr hb n res) (fun _ _ _ => False) 0 0 193 [(0, .ref 31), (1, .int v1), (2, .int v2), (3, .int v3), (4, .int v4), (5, .int v5), (6, .int v6), (7, .int v7)] [] (HM mo mw mr ms mt mu dd wi hi gt sp ta li sr co hb) n
abbrev Q_X11_writePlanes_217 (mo : MO) (mr : MR) (ms : Nat) (mt : A) (dd : A) (wi : A) (hi : A) (gt : A) (sp : A) (ta : A) (li : A) (sr : A) (hb : aH) (n : Nat) (k : Int32 → Int32 → Int32 → Int32 → Int32 → Int32 → Int32 → Int32 → Int32 → MW → A → A → Out (MW × A × A) Unit) : Prop := ∀ (v1 : Int32) (v2 : Int32) (v3 : Int32) (v4 : Int32) (v5 : Int32) (v6 : Int32) (v7 : Int32) (v8 : Int32) (v9 : Int32) (mw : MW) (mu : A) (co : A) (res : Out (MW × A × A) Unit), k v1 v2 v3 v4 v5 v6 v7 v8 v9 mw mu co = res → res ≠ fno → AW (fun _ _ => True) mX11_writePlanes (rmD 3 0 0) 0 0 (P_X11_writePlanes mo mr ms mt dd wi hi gt sp ta li sr hb n res) (fun _ _ _ => False) 0 0 217 [(0, .ref 31), (1, .int v1), (2, .int v2), (3, .int v3), (4, .int v4), (5, .int v5), (6, .int v6), (7, .int v7), (8, .int v8), (9, .int v9)] [] (HM mo mw mr ms mt mu dd wi hi gt sp ta li sr co hb) n
abbrev Q_X11_writePlanes_260 (mo : MO) (mr : MR) (ms : Nat) (mt : A) (dd : A) (wi : A) (hi : A) (gt : A) (sp : A) (ta : A) (li : A) (sr : A) (hb : aH) (n : Nat) (k : Int32 → Int32 → Int32 → Int32 → Int32 → Int32 → Int32 → Int32 → Int32 → MW → A → A → Out (MW × A × A) Unit) : Prop := ∀ (v1 : Int32) (v2 : Int32) (v3 : Int32) (v4 : Int32) (v5 : Int32) (v6 : Int32) (v7 : Int32) (v8 : Int32) (v9 : Int32) (mw : MW) (mu : A) (co : A) (res : Out (MW × A × A) Unit), k v1 v2 v3 v4 v5 v6 v7 v8 v9 mw mu co = res → res ≠ fno → AW (fun _ _ => True) mX11_writePlanes (rmD 3 0 0) 0 0 (P_X11_writePlanes mo mr ms mt dd wi hi gt sp ta li sr hb n res) (fun _ _ _ => False) 0 0 260 [(0, .ref 31), (1, .int v1), (2, .int v2), (3, .int v3), (4, .int v4), (5, .int v5), (6, .int v6), (7, .int v7), (8, .int v8), (9, .int v9)] [] (HM mo mw mr ms mt mu dd wi hi gt sp ta li sr co hb) n
abbrev Q_X11_writePlanes_274 (mo : MO) (mr : MR) (ms : Nat) (mt : A) (dd : A) (wi : A) (hi : A) (gt : A) (sp : A) (ta : A) (li : A) (sr : A) (hb : aH) (n : Nat) (k : Int32 → Int32 → Int32 → Int32 → Int32 → Int32 → Int32 → Int32 → Int32 → MW → A → A → Out (MW × A × A) Unit) : Prop := ∀ (v1 : Int32) (v2 : Int32) (v3 : Int32) (v4 : Int32) (v5 : Int32) (v6 : Int32) (v7 : Int32) (v8 : Int32) (v9 : Int32) (mw : MW) (mu : A) (co : A) (res : Out (MW × A × A) Unit), k v1 v2 v3 v4 v5 v6 v7 v8 v9 mw mu co = res → res ≠ fno → AW (fun _ _ => True) mX11_writePlanes (rmD 3 0 0) 0 0 (P_X11_writePlanes mo mr ms mt dd wi hi gt sp ta li sr hb n res) (fun _ _ _ => False) 0 0 274 [(0, .ref 31), (1, .int v1), (2, .int v2), (3, .int v3), (4, .int v4), (5, .int v5), (6, .int v6), (7, .int v7), (8, .int v8), (9, .int v9)] [] (HM mo mw mr ms mt mu dd wi hi gt sp ta li sr co hb) n
abbrev Q_X11_writePlanes_284 (mo : MO) (mr : MR) (ms : Nat) (mt : A) (dd : A) (wi : A) (hi : A) (gt : A) (sp : A) (ta : A) (li : A) (sr : A) (hb : aH) (n : Nat) (k : Int32 → Int32 → Int32 → Int32 → Int32 → Int32 → Int32 → Int32 → Int32 → MW → A → A → Out (MW × A × A) Unit) : Prop := ∀ (v1 : Int32) (v2 : Int32) (v3 : Int32) (v4 : Int32) (v5 : Int32) (v6 : Int32) (v7 : Int32) (v8 : Int32) (v9 : Int32) (mw : MW) (mu : A) (co : A) (res : Out (MW × A × A) Unit), k v1 v2 v3 v4 v5 v6 v7 v8 v9 mw mu co = res → res ≠ fno → AW (fun _ _ => True) mX11_writePlanes (rmD 3 0 0) 0 0 (P_X11_writePlanes mo mr ms mt dd wi hi gt sp ta li sr hb n res) (fun _ _ _ => False) 0 0 284 [(0, .ref 31), (1, .int v1), (2, .int v2), (3, .int v3), (4, .int v4), (5, .int v5), (6, .int v6), (7, .int v7), (8, .int v8), (9, .int v9)] [] (HM mo mw mr ms mt mu dd wi hi gt sp ta li sr co hb) n
abbrev Q_X11_writePlanes_327 (mo : MO) (mr : MR) (ms : Nat) (mt : A) (dd : A) (wi : A) (hi : A) (gt : A) (sp : A) (ta : A) (li : A) (sr : A) (hb : aH) (n : Nat) (k : Int32 → MW → A → A → Out (MW × A × A) Unit) : Prop := ∀ (v5 : Int32) (mw : MW) (mu : A) (co : A) (res : Out (MW × A × A) Unit), k v5 mw mu co = res → res ≠ fno → AW (fun _ _ => True) mX11_writePlanes (rmD 3 0 0) 0 0 (P_X11_writePlanes mo mr ms mt dd wi hi gt sp ta li sr hb n res) (fun _ _ _ => False) 0 0 327 [(0, .ref 31), (5, .int v5)] [] (HM mo mw mr ms mt mu dd wi hi gt sp ta li sr co hb) n
abbrev Q_X11_writePlanes_355 (mo : MO) (mr : MR) (ms : Nat) (mt : A) (dd : A) (wi : A) (hi : A) (gt : A) (sp : A) (ta : A) (li : A) (sr : A) (hb : aH) (n : Nat) (k : Int32 → Int32 → MW → A → A → Out (MW × A × A) Unit) : Prop := ∀ (v5 : Int32) (t0 : Int32) (mw : MW) (mu : A) (co : A) (res : Out (MW × A × A) Unit), k v5 t0 mw mu co = res → res ≠ fno → AW (fun _ _ => True) mX11_writePlanes (rmD 3 0 0) 0 0 (P_X11_writePlanes mo mr ms mt dd wi hi gt sp ta li sr hb n res) (fun _ _ _ => False) 0 0 355 [(0, .ref 31), (5, .int v5)] [.int t0] (HM mo mw mr ms mt mu dd wi hi gt sp ta li sr co hb) n
def F_X11_writePlanes_355 (dd : A) (wi : A) (hi : A) (k327 : Int32 → MW → A → A → Out (MW × A × A) Unit) (v5 : Int32) (t0 : Int32) (mw : MW) (mu : A) (co : A) : Out (MW × A × A) Unit := fon (F_X11_put_ (t0 >>> ((24 : Int32) &&& 31)) mw mu) (fun z363 s363 => fon (F_X11_put_ (t0 >>> ((16 : Int32) &&& 31)) s363.1 s363.2) (fun z372 s372 => fon (F_X11_put_ (t0 >>> ((8 : Int32) &&& 31)) s372.1 s372.2) (fun z381 s381 => k327 (v5 + 1) s381.1 s381.2 co) (fun _ _ => fno)) (fun _ _ => fno)) (fun _ _ => fno)
set_option maxHeartbeats 1000000 in
set_option maxRecDepth 100000 in
theorem b_X11_writePlanes_355 (mo : MO) (mr : MR) (ms : Nat) (mt : A) (dd : A) (wi : A) (hi : A) (gt : A) (sp : A) (ta : A) (li : A) (sr : A) (hb : aH) (n : Nat)  (k327 : Int32 → MW → A → A → Out (MW × A × A) Unit) (hk327 : Q_X11_writePlanes_327 mo mr ms mt dd wi hi gt sp ta li sr hb n k327) : Q_X11_writePlanes_355 mo mr ms mt dd wi hi gt sp ta li sr hb n (F_X11_writePlanes_355 dd wi hi k327) := by
  intro v5 t0 mw mu co res hE hF
  unfold F_X11_writePlanes_355 at hE
  refine aw_istore (lv2 := [(6, _), (0, _), (5, _)]) dX11_writePlanes_355 (by decide) rfl ?_
  refine aw_aload_n dX11_writePlanes_357 rfl ?_
  refine aw_iload dX11_writePlanes_358 rfl ?_
  refine aw_bipush (v := 24) dX11_writePlanes_360 (by decide) ?_
  refine aw_ishr dX11_writePlanes_362 ?_
  refine aw_callV dX11_writePlanes_363 at_mod cvX11_280 rfl (kF_X11_put_ mo mw mr ms mt mu dd wi hi gt sp ta li sr co hb _  (t0 >>> ((24 : Int32) &&& 31)) (fon_ne hE hF)) rfl (Nat.le_of_ble_eq_true rfl) (by decide) (by decide) (by decide) (by decide) (fun _ _ _ hf => False.elim hf) (fun r363 h363 n363 hp363 => ?_)
  obtain ⟨z363, s363, e363, rfl, rfl, rfl⟩ := hp363
  replace hE := fon_ok e363 hE
  refine aw_aload_n dX11_writePlanes_366 rfl ?_
  refine aw_iload dX11_writePlanes_367 rfl ?_
  refine aw_bipush (v := 16) dX11_writePlanes_369 (by decide) ?_
  refine aw_ishr dX11_writePlanes_371 ?_
  refine aw_callV dX11_writePlanes_372 at_mod cvX11_280 rfl (kF_X11_put_ mo s363.1 mr ms mt s363.2 dd wi hi gt sp ta li sr co hb _  (t0 >>> ((16 : Int32) &&& 31)) (fon_ne hE hF)) rfl (Nat.le_of_ble_eq_true rfl) (by decide) (by decide) (by decide) (by decide) (fun _ _ _ hf => False.elim hf) (fun r372 h372 n372 hp372 => ?_)
  obtain ⟨z372, s372, e372, rfl, rfl, rfl⟩ := hp372
  replace hE := fon_ok e372 hE
  refine aw_aload_n dX11_writePlanes_375 rfl ?_
  refine aw_iload dX11_writePlanes_376 rfl ?_
  refine aw_bipush (v := 8) dX11_writePlanes_378 (by decide) ?_
  refine aw_ishr dX11_writePlanes_380 ?_
  refine aw_callV dX11_writePlanes_381 at_mod cvX11_280 rfl (kF_X11_put_ mo s372.1 mr ms mt s372.2 dd wi hi gt sp ta li sr co hb _  (t0 >>> ((8 : Int32) &&& 31)) (fon_ne hE hF)) rfl (Nat.le_of_ble_eq_true rfl) (by decide) (by decide) (by decide) (by decide) (fun _ _ _ hf => False.elim hf) (fun r381 h381 n381 hp381 => ?_)
  obtain ⟨z381, s381, e381, rfl, rfl, rfl⟩ := hp381
  replace hE := fon_ok e381 hE
  refine aw_iinc (v := (v5 + 1)) (lv2 := [(5, _), (6, _), (0, _)]) dX11_writePlanes_384 rfl (incE (by decide)) (by decide) rfl ?_
  refine aw_goto (tgt := 327) dX11_writePlanes_387 (by decide) ?_
  exact aw_lv _ (List.forall_mem_cons.mpr ⟨rfl, (List.forall_mem_cons.mpr ⟨rfl, fun _ h => absurd h List.not_mem_nil⟩)⟩) (hk327 (v5 + 1) s381.1 s381.2 co _ hE hF)
def F_X11_writePlanes_327 (dd : A) (wi : A) (hi : A) (k327 : Int32 → MW → A → A → Out (MW × A × A) Unit) (v5 : Int32) (mw : MW) (mu : A) (co : A) : Out (MW × A × A) Unit := if 256 ≤ v5 then (fok () (mw, mu, co)) else (if (mw_cm mw) ≤ v5 then (F_X11_writePlanes_355 dd wi hi k327 v5 (0 : Int32) mw mu co) else (if inb v5 256 then (F_X11_writePlanes_355 dd wi hi k327 v5 (co (Int32.toNatClampNeg v5)) mw mu co) else fno))
set_option maxHeartbeats 1000000 in
set_option maxRecDepth 100000 in
theorem b_X11_writePlanes_327 (mo : MO) (mr : MR) (ms : Nat) (mt : A) (dd : A) (wi : A) (hi : A) (gt : A) (sp : A) (ta : A) (li : A) (sr : A) (hb : aH) (n : Nat)  (k327 : Int32 → MW → A → A → Out (MW × A × A) Unit) (hk327 : Q_X11_writePlanes_327 mo mr ms mt dd wi hi gt sp ta li sr hb n k327) : Q_X11_writePlanes_327 mo mr ms mt dd wi hi gt sp ta li sr hb n (F_X11_writePlanes_327 dd wi hi k327) := by
  intro v5 mw mu co res hE hF
  unfold F_X11_writePlanes_327 at hE
  refine aw_iload dX11_writePlanes_327 rfl ?_
  refine aw_sipush (v := 256) dX11_writePlanes_329 (by decide) ?_
  refine aw_icmp_ge (tgt := 390) dX11_writePlanes_332 (by decide) (fun c332 => ?_) (fun c332 => ?_)
  · replace hE := fit hE c332
    exact aw_vret dX11_writePlanes_390 rfl (Nat.zero_le _) (Nat.zero_le _) (Nat.zero_le _) (Nat.zero_le _) ⟨_, _, hE.symm, rfl, rfl, rfl⟩
  · replace hE := fif hE c332
    refine aw_iload dX11_writePlanes_335 rfl ?_
    refine aw_aload_n dX11_writePlanes_337 rfl ?_
    refine aw_getf (v := .int (mw_cm mw)) dX11_writePlanes_338 flX11_262_10 at_mod rfl ?_
    refine aw_icmp_ge (tgt := 354) dX11_writePlanes_341 (by decide) (fun c341 => ?_) (fun c341 => ?_)
    · replace hE := fit hE c341
      refine aw_iconst (v := 0) dX11_writePlanes_354 (by decide) ?_
      exact aw_lv _ (List.forall_mem_cons.mpr ⟨rfl, (List.forall_mem_cons.mpr ⟨rfl, fun _ h => absurd h List.not_mem_nil⟩)⟩) (b_X11_writePlanes_355 mo mr ms mt dd wi hi gt sp ta li sr hb n  k327 hk327 v5 (0 : Int32) mw mu co _ hE hF)
    · replace hE := fif hE c341
      refine aw_aload_n dX11_writePlanes_344 rfl ?_
      refine aw_getf (v := .ref 42) dX11_writePlanes_345 flX11_58_10 at_mod rfl ?_
      refine aw_iload dX11_writePlanes_348 rfl ?_
      obtain ⟨g350, hE⟩ := fgd hE hF
      refine aw_iald (f := co) dX11_writePlanes_350 at_mcols (vp_in_iff.mpr g350) ?_
      refine aw_goto (tgt := 355) dX11_writePlanes_351 (by decide) ?_
      exact aw_lv _ (List.forall_mem_cons.mpr ⟨rfl, (List.forall_mem_cons.mpr ⟨rfl, fun _ h => absurd h List.not_mem_nil⟩)⟩) (b_X11_writePlanes_355 mo mr ms mt dd wi hi gt sp ta li sr hb n  k327 hk327 v5 (co (Int32.toNatClampNeg v5)) mw mu co _ hE hF)
def F_X11_writePlanes_284 (dd : A) (wi : A) (hi : A) (k170 : Int32 → Int32 → Int32 → Int32 → Int32 → MW → A → A → Out (MW × A × A) Unit) (k184 : Int32 → Int32 → Int32 → Int32 → Int32 → Int32 → MW → A → A → Out (MW × A × A) Unit) (k193 : Int32 → Int32 → Int32 → Int32 → Int32 → Int32 → Int32 → MW → A → A → Out (MW × A × A) Unit) (v1 : Int32) (v2 : Int32) (v3 : Int32) (v4 : Int32) (v5 : Int32) (v6 : Int32) (v7 : Int32) (v8 : Int32) (v9 : Int32) (mw : MW) (mu : A) (co : A) : Out (MW × A × A) Unit := fon (F_X11_put_ v8 mw mu) (fun z287 s287 => k193 v1 v2 v3 v4 v5 v6 (v7 + v9) s287.1 s287.2 co) (fun _ _ => fno)
set_option maxHeartbeats 1000000 in
set_option maxRecDepth 100000 in
theorem b_X11_writePlanes_284 (mo : MO) (mr : MR) (ms : Nat) (mt : A) (dd : A) (wi : A) (hi : A) (gt : A) (sp : A) (ta : A) (li : A) (sr : A) (hb : aH) (n : Nat)  (k170 : Int32 → Int32 → Int32 → Int32 → Int32 → MW → A → A → Out (MW × A × A) Unit) (hk170 : Q_X11_writePlanes_170 mo mr ms mt dd wi hi gt sp ta li sr hb n k170) (k184 : Int32 → Int32 → Int32 → Int32 → Int32 → Int32 → MW → A → A → Out (MW × A × A) Unit) (hk184 : Q_X11_writePlanes_184 mo mr ms mt dd wi hi gt sp ta li sr hb n k184) (k193 : Int32 → Int32 → Int32 → Int32 → Int32 → Int32 → Int32 → MW → A → A → Out (MW × A × A) Unit) (hk193 : Q_X11_writePlanes_193 mo mr ms mt dd wi hi gt sp ta li sr hb n k193) : Q_X11_writePlanes_284 mo mr ms mt dd wi hi gt sp ta li sr hb n (F_X11_writePlanes_284 dd wi hi k170 k184 k193) := by
  intro v1 v2 v3 v4 v5 v6 v7 v8 v9 mw mu co res hE hF
  unfold F_X11_writePlanes_284 at hE
  refine aw_aload_n dX11_writePlanes_284 rfl ?_
  refine aw_iload dX11_writePlanes_285 rfl ?_
  refine aw_callV dX11_writePlanes_287 at_mod cvX11_280 rfl (kF_X11_put_ mo mw mr ms mt mu dd wi hi gt sp ta li sr co hb _  v8 (fon_ne hE hF)) rfl (Nat.le_of_ble_eq_true rfl) (by decide) (by decide) (by decide) (by decide) (fun _ _ _ hf => False.elim hf) (fun r287 h287 n287 hp287 => ?_)
  obtain ⟨z287, s287, e287, rfl, rfl, rfl⟩ := hp287
  replace hE := fon_ok e287 hE
  refine aw_iload dX11_writePlanes_290 rfl ?_
  refine aw_iload dX11_writePlanes_292 rfl ?_
  refine aw_iadd dX11_writePlanes_294 ?_
  refine aw_istore (lv2 := [(7, _), (0, _), (1, _), (2, _), (3, _), (4, _), (5, _), (6, _), (8, _), (9, _)]) dX11_writePlanes_295 (by decide) rfl ?_
  refine aw_goto (tgt := 193) dX11_writePlanes_297 (by decide) ?_
  exact aw_lv _ (List.forall_mem_cons.mpr ⟨rfl, (List.forall_mem_cons.mpr ⟨rfl, (List.forall_mem_cons.mpr ⟨rfl, (List.forall_mem_cons.mpr ⟨rfl, (List.forall_mem_cons.mpr ⟨rfl, (List.forall_mem_cons.mpr ⟨rfl, (List.forall_mem_cons.mpr ⟨rfl, (List.forall_mem_cons.mpr ⟨rfl, fun _ h => absurd h List.not_mem_nil⟩)⟩)⟩)⟩)⟩)⟩)⟩)⟩) (hk193 v1 v2 v3 v4 v5 v6 (v7 + v9) s287.1 s287.2 co _ hE hF)
def F_X11_writePlanes_274 (dd : A) (wi : A) (hi : A) (k170 : Int32 → Int32 → Int32 → Int32 → Int32 → MW → A → A → Out (MW × A × A) Unit) (k184 : Int32 → Int32 → Int32 → Int32 → Int32 → Int32 → MW → A → A → Out (MW × A × A) Unit) (k193 : Int32 → Int32 → Int32 → Int32 → Int32 → Int32 → Int32 → MW → A → A → Out (MW × A × A) Unit) (v1 : Int32) (v2 : Int32) (v3 : Int32) (v4 : Int32) (v5 : Int32) (v6 : Int32) (v7 : Int32) (v8 : Int32) (v9 : Int32) (mw : MW) (mu : A) (co : A) : Out (MW × A × A) Unit := fon (F_X11_put_ (192 + v9) mw mu) (fun z281 s281 => F_X11_writePlanes_284 dd wi hi k170 k184 k193 v1 v2 v3 v4 v5 v6 v7 v8 v9 s281.1 s281.2 co) (fun _ _ => fno)
set_option maxHeartbeats 1000000 in
set_option maxRecDepth 100000 in
theorem b_X11_writePlanes_274 (mo : MO) (mr : MR) (ms : Nat) (mt : A) (dd : A) (wi : A) (hi : A) (gt : A) (sp : A) (ta : A) (li : A) (sr : A) (hb : aH) (n : Nat)  (k170 : Int32 → Int32 → Int32 → Int32 → Int32 → MW → A → A → Out (MW × A × A) Unit) (hk170 : Q_X11_writePlanes_170 mo mr ms mt dd wi hi gt sp ta li sr hb n k170) (k184 : Int32 → Int32 → Int32 → Int32 → Int32 → Int32 → MW → A → A → Out (MW × A × A) Unit) (hk184 : Q_X11_writePlanes_184 mo mr ms mt dd wi hi gt sp ta li sr hb n k184) (k193 : Int32 → Int32 → Int32 → Int32 → Int32 → Int32 → Int32 → MW → A → A → Out (MW × A × A) Unit) (hk193 : Q_X11_writePlanes_193 mo mr ms mt dd wi hi gt sp ta li sr hb n k193) : Q_X11_writePlanes_274 mo mr ms mt dd wi hi gt sp ta li sr hb n (F_X11_writePlanes_274 dd wi hi k170 k184 k193) := by
  intro v1 v2 v3 v4 v5 v6 v7 v8 v9 mw mu co res hE hF
  unfold F_X11_writePlanes_274 at hE
  refine aw_aload_n dX11_writePlanes_274 rfl ?_
  refine aw_sipush (v := 192) dX11_writePlanes_275 (by decide) ?_
  refine aw_iload dX11_writePlanes_278 rfl ?_
  refine aw_iadd dX11_writePlanes_280 ?_
  refine aw_callV dX11_writePlanes_281 at_mod cvX11_280 rfl (kF_X11_put_ mo mw mr ms mt mu dd wi hi gt sp ta li sr co hb _  (192 + v9) (fon_ne hE hF)) rfl (Nat.le_of_ble_eq_true rfl) (by decide) (by decide) (by decide) (by decide) (fun _ _ _ hf => False.elim hf) (fun r281 h281 n281 hp281 => ?_)
  obtain ⟨z281, s281, e281, rfl, rfl, rfl⟩ := hp281
  replace hE := fon_ok e281 hE
  exact aw_lv _ (List.forall_mem_cons.mpr ⟨rfl, (List.forall_mem_cons.mpr ⟨rfl, (List.forall_mem_cons.mpr ⟨rfl, (List.forall_mem_cons.mpr ⟨rfl, (List.forall_mem_cons.mpr ⟨rfl, (List.forall_mem_cons.mpr ⟨rfl, (List.forall_mem_cons.mpr ⟨rfl, (List.forall_mem_cons.mpr ⟨rfl, (List.forall_mem_cons.mpr ⟨rfl, (List.forall_mem_cons.mpr ⟨rfl, fun _ h => absurd h List.not_mem_nil⟩)⟩)⟩)⟩)⟩)⟩)⟩)⟩)⟩)⟩) (b_X11_writePlanes_284 mo mr ms mt dd wi hi gt sp ta li sr hb n  k170 hk170 k184 hk184 k193 hk193 v1 v2 v3 v4 v5 v6 v7 v8 v9 s281.1 s281.2 co _ hE hF)
def F_X11_writePlanes_260 (dd : A) (wi : A) (hi : A) (k170 : Int32 → Int32 → Int32 → Int32 → Int32 → MW → A → A → Out (MW × A × A) Unit) (k184 : Int32 → Int32 → Int32 → Int32 → Int32 → Int32 → MW → A → A → Out (MW × A × A) Unit) (k193 : Int32 → Int32 → Int32 → Int32 → Int32 → Int32 → Int32 → MW → A → A → Out (MW × A × A) Unit) (v1 : Int32) (v2 : Int32) (v3 : Int32) (v4 : Int32) (v5 : Int32) (v6 : Int32) (v7 : Int32) (v8 : Int32) (v9 : Int32) (mw : MW) (mu : A) (co : A) : Out (MW × A × A) Unit := if 1 < v9 then (F_X11_writePlanes_274 dd wi hi k170 k184 k193 v1 v2 v3 v4 v5 v6 v7 v8 v9 mw mu co) else (if v8 < 192 then (F_X11_writePlanes_284 dd wi hi k170 k184 k193 v1 v2 v3 v4 v5 v6 v7 v8 v9 mw mu co) else (F_X11_writePlanes_274 dd wi hi k170 k184 k193 v1 v2 v3 v4 v5 v6 v7 v8 v9 mw mu co))
set_option maxHeartbeats 1000000 in
set_option maxRecDepth 100000 in
theorem b_X11_writePlanes_260 (mo : MO) (mr : MR) (ms : Nat) (mt : A) (dd : A) (wi : A) (hi : A) (gt : A) (sp : A) (ta : A) (li : A) (sr : A) (hb : aH) (n : Nat)  (k170 : Int32 → Int32 → Int32 → Int32 → Int32 → MW → A → A → Out (MW × A × A) Unit) (hk170 : Q_X11_writePlanes_170 mo mr ms mt dd wi hi gt sp ta li sr hb n k170) (k184 : Int32 → Int32 → Int32 → Int32 → Int32 → Int32 → MW → A → A → Out (MW × A × A) Unit) (hk184 : Q_X11_writePlanes_184 mo mr ms mt dd wi hi gt sp ta li sr hb n k184) (k193 : Int32 → Int32 → Int32 → Int32 → Int32 → Int32 → Int32 → MW → A → A → Out (MW × A × A) Unit) (hk193 : Q_X11_writePlanes_193 mo mr ms mt dd wi hi gt sp ta li sr hb n k193) : Q_X11_writePlanes_260 mo mr ms mt dd wi hi gt sp ta li sr hb n (F_X11_writePlanes_260 dd wi hi k170 k184 k193) := by
  intro v1 v2 v3 v4 v5 v6 v7 v8 v9 mw mu co res hE hF
  unfold F_X11_writePlanes_260 at hE
  refine aw_iload dX11_writePlanes_260 rfl ?_
  refine aw_iconst (v := 1) dX11_writePlanes_262 (by decide) ?_
  refine aw_icmp_gt (tgt := 274) dX11_writePlanes_263 (by decide) (fun c263 => ?_) (fun c263 => ?_)
  · replace hE := fit hE c263
    exact aw_lv _ (List.forall_mem_cons.mpr ⟨rfl, (List.forall_mem_cons.mpr ⟨rfl, (List.forall_mem_cons.mpr ⟨rfl, (List.forall_mem_cons.mpr ⟨rfl, (List.forall_mem_cons.mpr ⟨rfl, (List.forall_mem_cons.mpr ⟨rfl, (List.forall_mem_cons.mpr ⟨rfl, (List.forall_mem_cons.mpr ⟨rfl, (List.forall_mem_cons.mpr ⟨rfl, (List.forall_mem_cons.mpr ⟨rfl, fun _ h => absurd h List.not_mem_nil⟩)⟩)⟩)⟩)⟩)⟩)⟩)⟩)⟩)⟩) (b_X11_writePlanes_274 mo mr ms mt dd wi hi gt sp ta li sr hb n  k170 hk170 k184 hk184 k193 hk193 v1 v2 v3 v4 v5 v6 v7 v8 v9 mw mu co _ hE hF)
  · replace hE := fif hE c263
    refine aw_iload dX11_writePlanes_266 rfl ?_
    refine aw_sipush (v := 192) dX11_writePlanes_268 (by decide) ?_
    refine aw_icmp_lt (tgt := 284) dX11_writePlanes_271 (by decide) (fun c271 => ?_) (fun c271 => ?_)
    · replace hE := fit hE c271
      exact aw_lv _ (List.forall_mem_cons.mpr ⟨rfl, (List.forall_mem_cons.mpr ⟨rfl, (List.forall_mem_cons.mpr ⟨rfl, (List.forall_mem_cons.mpr ⟨rfl, (List.forall_mem_cons.mpr ⟨rfl, (List.forall_mem_cons.mpr ⟨rfl, (List.forall_mem_cons.mpr ⟨rfl, (List.forall_mem_cons.mpr ⟨rfl, (List.forall_mem_cons.mpr ⟨rfl, (List.forall_mem_cons.mpr ⟨rfl, fun _ h => absurd h List.not_mem_nil⟩)⟩)⟩)⟩)⟩)⟩)⟩)⟩)⟩)⟩) (b_X11_writePlanes_284 mo mr ms mt dd wi hi gt sp ta li sr hb n  k170 hk170 k184 hk184 k193 hk193 v1 v2 v3 v4 v5 v6 v7 v8 v9 mw mu co _ hE hF)
    · replace hE := fif hE c271
      exact aw_lv _ (List.forall_mem_cons.mpr ⟨rfl, (List.forall_mem_cons.mpr ⟨rfl, (List.forall_mem_cons.mpr ⟨rfl, (List.forall_mem_cons.mpr ⟨rfl, (List.forall_mem_cons.mpr ⟨rfl, (List.forall_mem_cons.mpr ⟨rfl, (List.forall_mem_cons.mpr ⟨rfl, (List.forall_mem_cons.mpr ⟨rfl, (List.forall_mem_cons.mpr ⟨rfl, (List.forall_mem_cons.mpr ⟨rfl, fun _ h => absurd h List.not_mem_nil⟩)⟩)⟩)⟩)⟩)⟩)⟩)⟩)⟩)⟩) (b_X11_writePlanes_274 mo mr ms mt dd wi hi gt sp ta li sr hb n  k170 hk170 k184 hk184 k193 hk193 v1 v2 v3 v4 v5 v6 v7 v8 v9 mw mu co _ hE hF)
def F_X11_writePlanes_217 (dd : A) (wi : A) (hi : A) (k170 : Int32 → Int32 → Int32 → Int32 → Int32 → MW → A → A → Out (MW × A × A) Unit) (k184 : Int32 → Int32 → Int32 → Int32 → Int32 → Int32 → MW → A → A → Out (MW × A × A) Unit) (k193 : Int32 → Int32 → Int32 → Int32 → Int32 → Int32 → Int32 → MW → A → A → Out (MW × A × A) Unit) (k217 : Int32 → Int32 → Int32 → Int32 → Int32 → Int32 → Int32 → Int32 → Int32 → MW → A → A → Out (MW × A × A) Unit) (v1 : Int32) (v2 : Int32) (v3 : Int32) (v4 : Int32) (v5 : Int32) (v6 : Int32) (v7 : Int32) (v8 : Int32) (v9 : Int32) (mw : MW) (mu : A) (co : A) : Out (MW × A × A) Unit := if 63 ≤ v9 then (F_X11_writePlanes_260 dd wi hi k170 k184 k193 v1 v2 v3 v4 v5 v6 v7 v8 v9 mw mu co) else (if v4 ≤ (v7 + v9) then (F_X11_writePlanes_260 dd wi hi k170 k184 k193 v1 v2 v3 v4 v5 v6 v7 v8 v9 mw mu co) else (fon (F_X11_sample v1 (v7 + v9) v5 v6 v3 mw dd wi co) (fun z246 s246 => if z246 = v8 then (k217 v1 v2 v3 v4 v5 v6 v7 v8 (v9 + 1) mw mu co) else (F_X11_writePlanes_260 dd wi hi k170 k184 k193 v1 v2 v3 v4 v5 v6 v7 v8 v9 mw mu co)) (fun _ _ => fno)))
set_option maxHeartbeats 1000000 in
set_option maxRecDepth 100000 in
theorem b_X11_writePlanes_217 (mo : MO) (mr : MR) (ms : Nat) (mt : A) (dd : A) (wi : A) (hi : A) (gt : A) (sp : A) (ta : A) (li : A) (sr : A) (hb : aH) (n : Nat)  (k170 : Int32 → Int32 → Int32 → Int32 → Int32 → MW → A → A → Out (MW × A × A) Unit) (hk170 : Q_X11_writePlanes_170 mo mr ms mt dd wi hi gt sp ta li sr hb n k170) (k184 : Int32 → Int32 → Int32 → Int32 → Int32 → Int32 → MW → A → A → Out (MW × A × A) Unit) (hk184 : Q_X11_writePlanes_184 mo mr ms mt dd wi hi gt sp ta li sr hb n k184) (k193 : Int32 → Int32 → Int32 → Int32 → Int32 → Int32 → Int32 → MW → A → A → Out (MW × A × A) Unit) (hk193 : Q_X11_writePlanes_193 mo mr ms mt dd wi hi gt sp ta li sr hb n k193) (k217 : Int32 → Int32 → Int32 → Int32 → Int32 → Int32 → Int32 → Int32 → Int32 → MW → A → A → Out (MW × A × A) Unit) (hk217 : Q_X11_writePlanes_217 mo mr ms mt dd wi hi gt sp ta li sr hb n k217) : Q_X11_writePlanes_217 mo mr ms mt dd wi hi gt sp ta li sr hb n (F_X11_writePlanes_217 dd wi hi k170 k184 k193 k217) := by
  intro v1 v2 v3 v4 v5 v6 v7 v8 v9 mw mu co res hE hF
  unfold F_X11_writePlanes_217 at hE
  refine aw_iload dX11_writePlanes_217 rfl ?_
  refine aw_bipush (v := 63) dX11_writePlanes_219 (by decide) ?_
  refine aw_icmp_ge (tgt := 260) dX11_writePlanes_221 (by decide) (fun c221 => ?_) (fun c221 => ?_)
  · replace hE := fit hE c221
    exact aw_lv _ (List.forall_mem_cons.mpr ⟨rfl, (List.forall_mem_cons.mpr ⟨rfl, (List.forall_mem_cons.mpr ⟨rfl, (List.forall_mem_cons.mpr ⟨rfl, (List.forall_mem_cons.mpr ⟨rfl, (List.forall_mem_cons.mpr ⟨rfl, (List.forall_mem_cons.mpr ⟨rfl, (List.forall_mem_cons.mpr ⟨rfl, (List.forall_mem_cons.mpr ⟨rfl, (List.forall_mem_cons.mpr ⟨rfl, fun _ h => absurd h List.not_mem_nil⟩)⟩)⟩)⟩)⟩)⟩)⟩)⟩)⟩)⟩) (b_X11_writePlanes_260 mo mr ms mt dd wi hi gt sp ta li sr hb n  k170 hk170 k184 hk184 k193 hk193 v1 v2 v3 v4 v5 v6 v7 v8 v9 mw mu co _ hE hF)
  · replace hE := fif hE c221
    refine aw_iload dX11_writePlanes_224 rfl ?_
    refine aw_iload dX11_writePlanes_226 rfl ?_
    refine aw_iadd dX11_writePlanes_228 ?_
    refine aw_iload dX11_writePlanes_229 rfl ?_
    refine aw_icmp_ge (tgt := 260) dX11_writePlanes_231 (by decide) (fun c231 => ?_) (fun c231 => ?_)
    · replace hE := fit hE c231
      exact aw_lv _ (List.forall_mem_cons.mpr ⟨rfl, (List.forall_mem_cons.mpr ⟨rfl, (List.forall_mem_cons.mpr ⟨rfl, (List.forall_mem_cons.mpr ⟨rfl, (List.forall_mem_cons.mpr ⟨rfl, (List.forall_mem_cons.mpr ⟨rfl, (List.forall_mem_cons.mpr ⟨rfl, (List.forall_mem_cons.mpr ⟨rfl, (List.forall_mem_cons.mpr ⟨rfl, (List.forall_mem_cons.mpr ⟨rfl, fun _ h => absurd h List.not_mem_nil⟩)⟩)⟩)⟩)⟩)⟩)⟩)⟩)⟩)⟩) (b_X11_writePlanes_260 mo mr ms mt dd wi hi gt sp ta li sr hb n  k170 hk170 k184 hk184 k193 hk193 v1 v2 v3 v4 v5 v6 v7 v8 v9 mw mu co _ hE hF)
    · replace hE := fif hE c231
      refine aw_aload_n dX11_writePlanes_234 rfl ?_
      refine aw_iload_n dX11_writePlanes_235 rfl ?_
      refine aw_iload dX11_writePlanes_236 rfl ?_
      refine aw_iload dX11_writePlanes_238 rfl ?_
      refine aw_iadd dX11_writePlanes_240 ?_
      refine aw_iload dX11_writePlanes_241 rfl ?_
      refine aw_iload dX11_writePlanes_243 rfl ?_
      refine aw_iload_n dX11_writePlanes_245 rfl ?_
      refine aw_callV dX11_writePlanes_246 at_mod cvX11_309 rfl (kF_X11_sample mo mw mr ms mt mu dd wi hi gt sp ta li sr co hb _  v1 (v7 + v9) v5 v6 v3 (fon_ne hE hF)) rfl (Nat.le_of_ble_eq_true rfl) (by decide) (by decide) (by decide) (by decide) (fun _ _ _ hf => False.elim hf) (fun r246 h246 n246 hp246 => ?_)
      obtain ⟨z246, s246, e246, rfl, rfl, rfl⟩ := hp246
      replace hE := fon_ok e246 hE
      refine aw_iload dX11_writePlanes_249 rfl ?_
      refine aw_icmp_ne (tgt := 260) dX11_writePlanes_251 (by decide) (fun c251 => ?_) (fun c251 => ?_)
      · replace hE := fif hE c251
        exact aw_lv _ (List.forall_mem_cons.mpr ⟨rfl, (List.forall_mem_cons.mpr ⟨rfl, (List.forall_mem_cons.mpr ⟨rfl, (List.forall_mem_cons.mpr ⟨rfl, (List.forall_mem_cons.mpr ⟨rfl, (List.forall_mem_cons.mpr ⟨rfl, (List.forall_mem_cons.mpr ⟨rfl, (List.forall_mem_cons.mpr ⟨rfl, (List.forall_mem_cons.mpr ⟨rfl, (List.forall_mem_cons.mpr ⟨rfl, fun _ h => absurd h List.not_mem_nil⟩)⟩)⟩)⟩)⟩)⟩)⟩)⟩)⟩)⟩) (b_X11_writePlanes_260 mo mr ms mt dd wi hi gt sp ta li sr hb n  k170 hk170 k184 hk184 k193 hk193 v1 v2 v3 v4 v5 v6 v7 v8 v9 mw mu co _ hE hF)
      · replace hE := fit hE c251
        refine aw_iinc (v := (v9 + 1)) (lv2 := [(9, _), (0, _), (1, _), (2, _), (3, _), (4, _), (5, _), (6, _), (7, _), (8, _)]) dX11_writePlanes_254 rfl (incE (by decide)) (by decide) rfl ?_
        refine aw_goto (tgt := 217) dX11_writePlanes_257 (by decide) ?_
        exact aw_lv _ (List.forall_mem_cons.mpr ⟨rfl, (List.forall_mem_cons.mpr ⟨rfl, (List.forall_mem_cons.mpr ⟨rfl, (List.forall_mem_cons.mpr ⟨rfl, (List.forall_mem_cons.mpr ⟨rfl, (List.forall_mem_cons.mpr ⟨rfl, (List.forall_mem_cons.mpr ⟨rfl, (List.forall_mem_cons.mpr ⟨rfl, (List.forall_mem_cons.mpr ⟨rfl, (List.forall_mem_cons.mpr ⟨rfl, fun _ h => absurd h List.not_mem_nil⟩)⟩)⟩)⟩)⟩)⟩)⟩)⟩)⟩)⟩) (hk217 v1 v2 v3 v4 v5 v6 v7 v8 (v9 + 1) mw mu co _ hE hF)
def F_X11_writePlanes_193 (dd : A) (wi : A) (hi : A) (k170 : Int32 → Int32 → Int32 → Int32 → Int32 → MW → A → A → Out (MW × A × A) Unit) (k184 : Int32 → Int32 → Int32 → Int32 → Int32 → Int32 → MW → A → A → Out (MW × A × A) Unit) (k193 : Int32 → Int32 → Int32 → Int32 → Int32 → Int32 → Int32 → MW → A → A → Out (MW × A × A) Unit) (v1 : Int32) (v2 : Int32) (v3 : Int32) (v4 : Int32) (v5 : Int32) (v6 : Int32) (v7 : Int32) (mw : MW) (mu : A) (co : A) : Out (MW × A × A) Unit := if v4 ≤ v7 then (k184 v1 v2 v3 v4 v5 (v6 + 1) mw mu co) else (fon (F_X11_sample v1 v7 v5 v6 v3 mw dd wi co) (fun z209 s209 => lp (fun _ _ _ _ _ _ _ _ _ _ _ _ => fno) (F_X11_writePlanes_217 dd wi hi k170 k184 k193) FU v1 v2 v3 v4 v5 v6 v7 z209 (1 : Int32) mw mu co) (fun _ _ => fno))
set_option maxHeartbeats 1000000 in
set_option maxRecDepth 100000 in
theorem b_X11_writePlanes_193 (mo : MO) (mr : MR) (ms : Nat) (mt : A) (dd : A) (wi : A) (hi : A) (gt : A) (sp : A) (ta : A) (li : A) (sr : A) (hb : aH) (n : Nat)  (k170 : Int32 → Int32 → Int32 → Int32 → Int32 → MW → A → A → Out (MW × A × A) Unit) (hk170 : Q_X11_writePlanes_170 mo mr ms mt dd wi hi gt sp ta li sr hb n k170) (k184 : Int32 → Int32 → Int32 → Int32 → Int32 → Int32 → MW → A → A → Out (MW × A × A) Unit) (hk184 : Q_X11_writePlanes_184 mo mr ms mt dd wi hi gt sp ta li sr hb n k184) (k193 : Int32 → Int32 → Int32 → Int32 → Int32 → Int32 → Int32 → MW → A → A → Out (MW × A × A) Unit) (hk193 : Q_X11_writePlanes_193 mo mr ms mt dd wi hi gt sp ta li sr hb n k193) : Q_X11_writePlanes_193 mo mr ms mt dd wi hi gt sp ta li sr hb n (F_X11_writePlanes_193 dd wi hi k170 k184 k193) := by
  intro v1 v2 v3 v4 v5 v6 v7 mw mu co res hE hF
  unfold F_X11_writePlanes_193 at hE
  refine aw_iload dX11_writePlanes_193 rfl ?_
  refine aw_iload dX11_writePlanes_195 rfl ?_
  refine aw_icmp_ge (tgt := 300) dX11_writePlanes_197 (by decide) (fun c197 => ?_) (fun c197 => ?_)
  · replace hE := fit hE c197
    refine aw_iinc (v := (v6 + 1)) (lv2 := [(6, _), (0, _), (1, _), (2, _), (3, _), (4, _), (5, _), (7, _)]) dX11_writePlanes_300 rfl (incE (by decide)) (by decide) rfl ?_
    refine aw_goto (tgt := 184) dX11_writePlanes_303 (by decide) ?_
    exact aw_lv _ (List.forall_mem_cons.mpr ⟨rfl, (List.forall_mem_cons.mpr ⟨rfl, (List.forall_mem_cons.mpr ⟨rfl, (List.forall_mem_cons.mpr ⟨rfl, (List.forall_mem_cons.mpr ⟨rfl, (List.forall_mem_cons.mpr ⟨rfl, (List.forall_mem_cons.mpr ⟨rfl, fun _ h => absurd h List.not_mem_nil⟩)⟩)⟩)⟩)⟩)⟩)⟩) (hk184 v1 v2 v3 v4 v5 (v6 + 1) mw mu co _ hE hF)
  · replace hE := fif hE c197
    refine aw_aload_n dX11_writePlanes_200 rfl ?_
    refine aw_iload_n dX11_writePlanes_201 rfl ?_
    refine aw_iload dX11_writePlanes_202 rfl ?_
    refine aw_iload dX11_writePlanes_204 rfl ?_
    refine aw_iload dX11_writePlanes_206 rfl ?_
    refine aw_iload_n dX11_writePlanes_208 rfl ?_
    refine aw_callV dX11_writePlanes_209 at_mod cvX11_309 rfl (kF_X11_sample mo mw mr ms mt mu dd wi hi gt sp ta li sr co hb _  v1 v7 v5 v6 v3 (fon_ne hE hF)) rfl (Nat.le_of_ble_eq_true rfl) (by decide) (by decide) (by decide) (by decide) (fun _ _ _ hf => False.elim hf) (fun r209 h209 n209 hp209 => ?_)
    obtain ⟨z209, s209, e209, rfl, rfl, rfl⟩ := hp209
    replace hE := fon_ok e209 hE
    refine aw_istore (lv2 := [(8, _), (0, _), (1, _), (2, _), (3, _), (4, _), (5, _), (6, _), (7, _)]) dX11_writePlanes_212 (by decide) rfl ?_
    refine aw_iconst (v := 1) dX11_writePlanes_214 (by decide) ?_
    refine aw_istore (lv2 := [(9, _), (8, _), (0, _), (1, _), (2, _), (3, _), (4, _), (5, _), (6, _), (7, _)]) dX11_writePlanes_215 (by decide) rfl ?_
    exact aw_lv _ (List.forall_mem_cons.mpr ⟨rfl, (List.forall_mem_cons.mpr ⟨rfl, (List.forall_mem_cons.mpr ⟨rfl, (List.forall_mem_cons.mpr ⟨rfl, (List.forall_mem_cons.mpr ⟨rfl, (List.forall_mem_cons.mpr ⟨rfl, (List.forall_mem_cons.mpr ⟨rfl, (List.forall_mem_cons.mpr ⟨rfl, (List.forall_mem_cons.mpr ⟨rfl, (List.forall_mem_cons.mpr ⟨rfl, fun _ h => absurd h List.not_mem_nil⟩)⟩)⟩)⟩)⟩)⟩)⟩)⟩)⟩)⟩) (lp_ind (Q_X11_writePlanes_217 mo mr ms mt dd wi hi gt sp ta li sr hb n) (fun _ _ _ _ _ _ _ _ _ _ _ _ res hq hF => (hF hq.symm).elim) (fun k hk => b_X11_writePlanes_217 mo mr ms mt dd wi hi gt sp ta li sr hb n  k170 hk170 k184 hk184 k193 hk193 k hk) FU v1 v2 v3 v4 v5 v6 v7 z209 (1 : Int32) mw mu co _ hE hF)
def F_X11_writePlanes_184 (dd : A) (wi : A) (hi : A) (k170 : Int32 → Int32 → Int32 → Int32 → Int32 → MW → A → A → Out (MW × A × A) Unit) (k184 : Int32 → Int32 → Int32 → Int32 → Int32 → Int32 → MW → A → A → Out (MW × A × A) Unit) (v1 : Int32) (v2 : Int32) (v3 : Int32) (v4 : Int32) (v5 : Int32) (v6 : Int32) (mw : MW) (mu : A) (co : A) : Out (MW × A × A) Unit := if v3 ≤ v6 then (k170 v1 v2 v3 v4 (v5 + 1) mw mu co) else (lp (fun _ _ _ _ _ _ _ _ _ _ => fno) (F_X11_writePlanes_193 dd wi hi k170 k184) FU v1 v2 v3 v4 v5 v6 (0 : Int32) mw mu co)
set_option maxHeartbeats 1000000 in
set_option maxRecDepth 100000 in
theorem b_X11_writePlanes_184 (mo : MO) (mr : MR) (ms : Nat) (mt : A) (dd : A) (wi : A) (hi : A) (gt : A) (sp : A) (ta : A) (li : A) (sr : A) (hb : aH) (n : Nat)  (k170 : Int32 → Int32 → Int32 → Int32 → Int32 → MW → A → A → Out (MW × A × A) Unit) (hk170 : Q_X11_writePlanes_170 mo mr ms mt dd wi hi gt sp ta li sr hb n k170) (k184 : Int32 → Int32 → Int32 → Int32 → Int32 → Int32 → MW → A → A → Out (MW × A × A) Unit) (hk184 : Q_X11_writePlanes_184 mo mr ms mt dd wi hi gt sp ta li sr hb n k184) : Q_X11_writePlanes_184 mo mr ms mt dd wi hi gt sp ta li sr hb n (F_X11_writePlanes_184 dd wi hi k170 k184) := by
  intro v1 v2 v3 v4 v5 v6 mw mu co res hE hF
  unfold F_X11_writePlanes_184 at hE
  refine aw_iload dX11_writePlanes_184 rfl ?_
  refine aw_iload_n dX11_writePlanes_186 rfl ?_
  refine aw_icmp_ge (tgt := 306) dX11_writePlanes_187 (by decide) (fun c187 => ?_) (fun c187 => ?_)
  · replace hE := fit hE c187
    refine aw_iinc (v := (v5 + 1)) (lv2 := [(5, _), (0, _), (1, _), (2, _), (3, _), (4, _), (6, _)]) dX11_writePlanes_306 rfl (incE (by decide)) (by decide) rfl ?_
    refine aw_goto (tgt := 170) dX11_writePlanes_309 (by decide) ?_
    exact aw_lv _ (List.forall_mem_cons.mpr ⟨rfl, (List.forall_mem_cons.mpr ⟨rfl, (List.forall_mem_cons.mpr ⟨rfl, (List.forall_mem_cons.mpr ⟨rfl, (List.forall_mem_cons.mpr ⟨rfl, (List.forall_mem_cons.mpr ⟨rfl, fun _ h => absurd h List.not_mem_nil⟩)⟩)⟩)⟩)⟩)⟩) (hk170 v1 v2 v3 v4 (v5 + 1) mw mu co _ hE hF)
  · replace hE := fif hE c187
    refine aw_iconst (v := 0) dX11_writePlanes_190 (by decide) ?_
    refine aw_istore (lv2 := [(7, _), (0, _), (1, _), (2, _), (3, _), (4, _), (5, _), (6, _)]) dX11_writePlanes_191 (by decide) rfl ?_
    exact aw_lv _ (List.forall_mem_cons.mpr ⟨rfl, (List.forall_mem_cons.mpr ⟨rfl, (List.forall_mem_cons.mpr ⟨rfl, (List.forall_mem_cons.mpr ⟨rfl, (List.forall_mem_cons.mpr ⟨rfl, (List.forall_mem_cons.mpr ⟨rfl, (List.forall_mem_cons.mpr ⟨rfl, (List.forall_mem_cons.mpr ⟨rfl, fun _ h => absurd h List.not_mem_nil⟩)⟩)⟩)⟩)⟩)⟩)⟩)⟩) (lp_ind (Q_X11_writePlanes_193 mo mr ms mt dd wi hi gt sp ta li sr hb n) (fun _ _ _ _ _ _ _ _ _ _ res hq hF => (hF hq.symm).elim) (fun k hk => b_X11_writePlanes_193 mo mr ms mt dd wi hi gt sp ta li sr hb n  k170 hk170 k184 hk184 k hk) FU v1 v2 v3 v4 v5 v6 (0 : Int32) mw mu co _ hE hF)
def F_X11_writePlanes_170 (dd : A) (wi : A) (hi : A) (k170 : Int32 → Int32 → Int32 → Int32 → Int32 → MW → A → A → Out (MW × A × A) Unit) (v1 : Int32) (v2 : Int32) (v3 : Int32) (v4 : Int32) (v5 : Int32) (mw : MW) (mu : A) (co : A) : Out (MW × A × A) Unit := if inb v1 4 then (if (hi (Int32.toNatClampNeg v1)) ≤ v5 then (if v2 = 17 then (fon (F_X11_put_ 12 mw mu) (fun z321 s321 => lp (fun _ _ _ _ => fno) (F_X11_writePlanes_327 dd wi hi) FU (0 : Int32) s321.1 s321.2 co) (fun _ _ => fno)) else (fok () (mw, mu, co))) else (lp (fun _ _ _ _ _ _ _ _ _ => fno) (F_X11_writePlanes_184 dd wi hi k170) FU v1 v2 v3 v4 v5 (0 : Int32) mw mu co)) else fno
set_option maxHeartbeats 1000000 in
set_option maxRecDepth 100000 in
theorem b_X11_writePlanes_170 (mo : MO) (mr : MR) (ms : Nat) (mt : A) (dd : A) (wi : A) (hi : A) (gt : A) (sp : A) (ta : A) (li : A) (sr : A) (hb : aH) (n : Nat)  (k170 : Int32 → Int32 → Int32 → Int32 → Int32 → MW → A → A → Out (MW × A × A) Unit) (hk170 : Q_X11_writePlanes_170 mo mr ms mt dd wi hi gt sp ta li sr hb n k170) : Q_X11_writePlanes_170 mo mr ms mt dd wi hi gt sp ta li sr hb n (F_X11_writePlanes_170 dd wi hi k170) := by
  intro v1 v2 v3 v4 v5 mw mu co res hE hF
  unfold F_X11_writePlanes_170 at hE
  refine aw_iload dX11_writePlanes_170 rfl ?_
  refine aw_aload_n dX11_writePlanes_172 rfl ?_
  refine aw_getf (v := .ref 36) dX11_writePlanes_173 flX11_24_10 at_mod rfl ?_
  refine aw_iload_n dX11_writePlanes_176 rfl ?_
  obtain ⟨g177, hE⟩ := fgd hE hF
  refine aw_iald (f := hi) dX11_writePlanes_177 at_mhigh (vp_in_iff.mpr g177) ?_
  refine aw_icmp_ge (tgt := 312) dX11_writePlanes_178 (by decide) (fun c178 => ?_) (fun c178 => ?_)
  · replace hE := fit hE c178
    refine aw_iload_n dX11_writePlanes_312 rfl ?_
    refine aw_bipush (v := 17) dX11_writePlanes_313 (by decide) ?_
    refine aw_icmp_ne (tgt := 390) dX11_writePlanes_315 (by decide) (fun c315 => ?_) (fun c315 => ?_)
    · replace hE := fif hE c315
      exact aw_vret dX11_writePlanes_390 rfl (Nat.zero_le _) (Nat.zero_le _) (Nat.zero_le _) (Nat.zero_le _) ⟨_, _, hE.symm, rfl, rfl, rfl⟩
    · replace hE := fit hE c315
      refine aw_aload_n dX11_writePlanes_318 rfl ?_
      refine aw_bipush (v := 12) dX11_writePlanes_319 (by decide) ?_
      refine aw_callV dX11_writePlanes_321 at_mod cvX11_280 rfl (kF_X11_put_ mo mw mr ms mt mu dd wi hi gt sp ta li sr co hb _  12 (fon_ne hE hF)) rfl (Nat.le_of_ble_eq_true rfl) (by decide) (by decide) (by decide) (by decide) (fun _ _ _ hf => False.elim hf) (fun r321 h321 n321 hp321 => ?_)
      obtain ⟨z321, s321, e321, rfl, rfl, rfl⟩ := hp321
      replace hE := fon_ok e321 hE
      refine aw_iconst (v := 0) dX11_writePlanes_324 (by decide) ?_
      refine aw_istore (lv2 := [(5, _), (0, _), (1, _), (2, _), (3, _), (4, _)]) dX11_writePlanes_325 (by decide) rfl ?_
      exact aw_lv _ (List.forall_mem_cons.mpr ⟨rfl, (List.forall_mem_cons.mpr ⟨rfl, fun _ h => absurd h List.not_mem_nil⟩)⟩) (lp_ind (Q_X11_writePlanes_327 mo mr ms mt dd wi hi gt sp ta li sr hb n) (fun _ _ _ _ res hq hF => (hF hq.symm).elim) (fun k hk => b_X11_writePlanes_327 mo mr ms mt dd wi hi gt sp ta li sr hb n   k hk) FU (0 : Int32) s321.1 s321.2 co _ hE hF)
  · replace hE := fif hE c178
    refine aw_iconst (v := 0) dX11_writePlanes_181 (by decide) ?_
    refine aw_istore (lv2 := [(6, _), (0, _), (1, _), (2, _), (3, _), (4, _), (5, _)]) dX11_writePlanes_182 (by decide) rfl ?_
    exact aw_lv _ (List.forall_mem_cons.mpr ⟨rfl, (List.forall_mem_cons.mpr ⟨rfl, (List.forall_mem_cons.mpr ⟨rfl, (List.forall_mem_cons.mpr ⟨rfl, (List.forall_mem_cons.mpr ⟨rfl, (List.forall_mem_cons.mpr ⟨rfl, (List.forall_mem_cons.mpr ⟨rfl, fun _ h => absurd h List.not_mem_nil⟩)⟩)⟩)⟩)⟩)⟩)⟩) (lp_ind (Q_X11_writePlanes_184 mo mr ms mt dd wi hi gt sp ta li sr hb n) (fun _ _ _ _ _ _ _ _ _ res hq hF => (hF hq.symm).elim) (fun k hk => b_X11_writePlanes_184 mo mr ms mt dd wi hi gt sp ta li sr hb n  k170 hk170 k hk) FU v1 v2 v3 v4 v5 (0 : Int32) mw mu co _ hE hF)
def F_X11_writePlanes_167 (dd : A) (wi : A) (hi : A)  (v1 : Int32) (v2 : Int32) (v3 : Int32) (v4 : Int32) (mw : MW) (mu : A) (co : A) : Out (MW × A × A) Unit := lp (fun _ _ _ _ _ _ _ _ => fno) (F_X11_writePlanes_170 dd wi hi) FU v1 v2 v3 v4 (0 : Int32) mw mu co
set_option maxHeartbeats 1000000 in
set_option maxRecDepth 100000 in
theorem b_X11_writePlanes_167 (mo : MO) (mr : MR) (ms : Nat) (mt : A) (dd : A) (wi : A) (hi : A) (gt : A) (sp : A) (ta : A) (li : A) (sr : A) (hb : aH) (n : Nat)   : Q_X11_writePlanes_167 mo mr ms mt dd wi hi gt sp ta li sr hb n (F_X11_writePlanes_167 dd wi hi) := by
  intro v1 v2 v3 v4 mw mu co res hE hF
  unfold F_X11_writePlanes_167 at hE
  refine aw_iconst (v := 0) dX11_writePlanes_167 (by decide) ?_
  refine aw_istore (lv2 := [(5, _), (0, _), (1, _), (2, _), (3, _), (4, _)]) dX11_writePlanes_168 (by decide) rfl ?_
  exact aw_lv _ (List.forall_mem_cons.mpr ⟨rfl, (List.forall_mem_cons.mpr ⟨rfl, (List.forall_mem_cons.mpr ⟨rfl, (List.forall_mem_cons.mpr ⟨rfl, (List.forall_mem_cons.mpr ⟨rfl, (List.forall_mem_cons.mpr ⟨rfl, fun _ h => absurd h List.not_mem_nil⟩)⟩)⟩)⟩)⟩)⟩) (lp_ind (Q_X11_writePlanes_170 mo mr ms mt dd wi hi gt sp ta li sr hb n) (fun _ _ _ _ _ _ _ _ res hq hF => (hF hq.symm).elim) (fun k hk => b_X11_writePlanes_170 mo mr ms mt dd wi hi gt sp ta li sr hb n   k hk) FU v1 v2 v3 v4 (0 : Int32) mw mu co _ hE hF)
def F_X11_writePlanes_138 (dd : A) (wi : A) (hi : A) (k138 : Int32 → Int32 → Int32 → Int32 → Int32 → MW → A → A → Out (MW × A × A) Unit) (v1 : Int32) (v2 : Int32) (v3 : Int32) (v4 : Int32) (v5 : Int32) (mw : MW) (mu : A) (co : A) : Out (MW × A × A) Unit := if 59 ≤ v5 then (if v2 = 17 then (fon (F_X11_listColours v1 mw dd wi hi co) (fun z164 s164 => F_X11_writePlanes_167 dd wi hi v1 v2 v3 v4 s164.1 mu s164.2) (fun _ _ => fno)) else (F_X11_writePlanes_167 dd wi hi v1 v2 v3 v4 mw mu co)) else (fon (F_X11_put_ 0 mw mu) (fun z147 s147 => k138 v1 v2 v3 v4 (v5 + 1) s147.1 s147.2 co) (fun _ _ => fno))
set_option maxHeartbeats 1000000 in
set_option maxRecDepth 100000 in
theorem b_X11_writePlanes_138 (mo : MO) (mr : MR) (ms : Nat) (mt : A) (dd : A) (wi : A) (hi : A) (gt : A) (sp : A) (ta : A) (li : A) (sr : A) (hb : aH) (n : Nat)  (k138 : Int32 → Int32 → Int32 → Int32 → Int32 → MW → A → A → Out (MW × A × A) Unit) (hk138 : Q_X11_writePlanes_138 mo mr ms mt dd wi hi gt sp ta li sr hb n k138) : Q_X11_writePlanes_138 mo mr ms mt dd wi hi gt sp ta li sr hb n (F_X11_writePlanes_138 dd wi hi k138) := by
  intro v1 v2 v3 v4 v5 mw mu co res hE hF
  unfold F_X11_writePlanes_138 at hE
  refine aw_iload dX11_writePlanes_138 rfl ?_
  refine aw_bipush (v := 59) dX11_writePlanes_140 (by decide) ?_
  refine aw_icmp_ge (tgt := 156) dX11_writePlanes_142 (by decide) (fun c142 => ?_) (fun c142 => ?_)
  · replace hE := fit hE c142
    refine aw_iload_n dX11_writePlanes_156 rfl ?_
    refine aw_bipush (v := 17) dX11_writePlanes_157 (by decide) ?_
    refine aw_icmp_ne (tgt := 167) dX11_writePlanes_159 (by decide) (fun c159 => ?_) (fun c159 => ?_)
    · replace hE := fif hE c159
      exact aw_lv _ (List.forall_mem_cons.mpr ⟨rfl, (List.forall_mem_cons.mpr ⟨rfl, (List.forall_mem_cons.mpr ⟨rfl, (List.forall_mem_cons.mpr ⟨rfl, (List.forall_mem_cons.mpr ⟨rfl, fun _ h => absurd h List.not_mem_nil⟩)⟩)⟩)⟩)⟩) (b_X11_writePlanes_167 mo mr ms mt dd wi hi gt sp ta li sr hb n   v1 v2 v3 v4 mw mu co _ hE hF)
    · replace hE := fit hE c159
      refine aw_aload_n dX11_writePlanes_162 rfl ?_
      refine aw_iload_n dX11_writePlanes_163 rfl ?_
      refine aw_callV dX11_writePlanes_164 at_mod cvX11_293 rfl (kF_X11_listColours mo mw mr ms mt mu dd wi hi gt sp ta li sr co hb _  v1 (fon_ne hE hF)) rfl (Nat.le_of_ble_eq_true rfl) (by decide) (by decide) (by decide) (by decide) (fun _ _ _ hf => False.elim hf) (fun r164 h164 n164 hp164 => ?_)
      obtain ⟨z164, s164, e164, rfl, rfl, rfl⟩ := hp164
      replace hE := fon_ok e164 hE
      exact aw_lv _ (List.forall_mem_cons.mpr ⟨rfl, (List.forall_mem_cons.mpr ⟨rfl, (List.forall_mem_cons.mpr ⟨rfl, (List.forall_mem_cons.mpr ⟨rfl, (List.forall_mem_cons.mpr ⟨rfl, fun _ h => absurd h List.not_mem_nil⟩)⟩)⟩)⟩)⟩) (b_X11_writePlanes_167 mo mr ms mt dd wi hi gt sp ta li sr hb n   v1 v2 v3 v4 s164.1 mu s164.2 _ hE hF)
  · replace hE := fif hE c142
    refine aw_aload_n dX11_writePlanes_145 rfl ?_
    refine aw_iconst (v := 0) dX11_writePlanes_146 (by decide) ?_
    refine aw_callV dX11_writePlanes_147 at_mod cvX11_280 rfl (kF_X11_put_ mo mw mr ms mt mu dd wi hi gt sp ta li sr co hb _  0 (fon_ne hE hF)) rfl (Nat.le_of_ble_eq_true rfl) (by decide) (by decide) (by decide) (by decide) (fun _ _ _ hf => False.elim hf) (fun r147 h147 n147 hp147 => ?_)
    obtain ⟨z147, s147, e147, rfl, rfl, rfl⟩ := hp147
    replace hE := fon_ok e147 hE
    refine aw_iinc (v := (v5 + 1)) (lv2 := [(5, _), (0, _), (1, _), (2, _), (3, _), (4, _)]) dX11_writePlanes_150 rfl (incE (by decide)) (by decide) rfl ?_
    refine aw_goto (tgt := 138) dX11_writePlanes_153 (by decide) ?_
    exact aw_lv _ (List.forall_mem_cons.mpr ⟨rfl, (List.forall_mem_cons.mpr ⟨rfl, (List.forall_mem_cons.mpr ⟨rfl, (List.forall_mem_cons.mpr ⟨rfl, (List.forall_mem_cons.mpr ⟨rfl, (List.forall_mem_cons.mpr ⟨rfl, fun _ h => absurd h List.not_mem_nil⟩)⟩)⟩)⟩)⟩)⟩) (hk138 v1 v2 v3 v4 (v5 + 1) s147.1 s147.2 co _ hE hF)
def F_X11_writePlanes_100 (dd : A) (wi : A) (hi : A) (k100 : Int32 → Int32 → Int32 → Int32 → Int32 → MW → A → A → Out (MW × A × A) Unit) (v1 : Int32) (v2 : Int32) (v3 : Int32) (v4 : Int32) (v5 : Int32) (mw : MW) (mu : A) (co : A) : Out (MW × A × A) Unit := if 49 ≤ v5 then (fon (F_X11_put_ v3 mw mu) (fun z120 s120 => fon (F_X11_putLow v4 2 s120.1 s120.2) (fun z127 s127 => fon (F_X11_put_ 1 s127.1 s127.2) (fun z132 s132 => lp (fun _ _ _ _ _ _ _ _ => fno) (F_X11_writePlanes_138 dd wi hi) FU v1 v2 v3 v4 (0 : Int32) s132.1 s132.2 co) (fun _ _ => fno)) (fun _ _ => fno)) (fun _ _ => fno)) else (fon (F_X11_put_ 0 mw mu) (fun z109 s109 => k100 v1 v2 v3 v4 (v5 + 1) s109.1 s109.2 co) (fun _ _ => fno))
set_option maxHeartbeats 1000000 in
set_option maxRecDepth 100000 in
theorem b_X11_writePlanes_100 (mo : MO) (mr : MR) (ms : Nat) (mt : A) (dd : A) (wi : A) (hi : A) (gt : A) (sp : A) (ta : A) (li : A) (sr : A) (hb : aH) (n : Nat)  (k100 : Int32 → Int32 → Int32 → Int32 → Int32 → MW → A → A → Out (MW × A × A) Unit) (hk100 : Q_X11_writePlanes_100 mo mr ms mt dd wi hi gt sp ta li sr hb n k100) : Q_X11_writePlanes_100 mo mr ms mt dd wi hi gt sp ta li sr hb n (F_X11_writePlanes_100 dd wi hi k100) := by
  intro v1 v2 v3 v4 v5 mw mu co res hE hF
  unfold F_X11_writePlanes_100 at hE
  refine aw_iload dX11_writePlanes_100 rfl ?_
  refine aw_bipush (v := 49) dX11_writePlanes_102 (by decide) ?_
  refine aw_icmp_ge (tgt := 118) dX11_writePlanes_104 (by decide) (fun c104 => ?_) (fun c104 => ?_)
  · replace hE := fit hE c104
    refine aw_aload_n dX11_writePlanes_118 rfl ?_
    refine aw_iload_n dX11_writePlanes_119 rfl ?_
    refine aw_callV dX11_writePlanes_120 at_mod cvX11_280 rfl (kF_X11_put_ mo mw mr ms mt mu dd wi hi gt sp ta li sr co hb _  v3 (fon_ne hE hF)) rfl (Nat.le_of_ble_eq_true rfl) (by decide) (by decide) (by decide) (by decide) (fun _ _ _ hf => False.elim hf) (fun r120 h120 n120 hp120 => ?_)
    obtain ⟨z120, s120, e120, rfl, rfl, rfl⟩ := hp120
    replace hE := fon_ok e120 hE
    refine aw_aload_n dX11_writePlanes_123 rfl ?_
    refine aw_iload dX11_writePlanes_124 rfl ?_
    refine aw_iconst (v := 2) dX11_writePlanes_126 (by decide) ?_
    refine aw_callV dX11_writePlanes_127 at_mod cvX11_296 rfl (kF_X11_putLow mo s120.1 mr ms mt s120.2 dd wi hi gt sp ta li sr co hb _  v4 2 (fon_ne hE hF)) rfl (Nat.le_of_ble_eq_true rfl) (by decide) (by decide) (by decide) (by decide) (fun _ _ _ hf => False.elim hf) (fun r127 h127 n127 hp127 => ?_)
    obtain ⟨z127, s127, e127, rfl, rfl, rfl⟩ := hp127
    replace hE := fon_ok e127 hE
    refine aw_aload_n dX11_writePlanes_130 rfl ?_
    refine aw_iconst (v := 1) dX11_writePlanes_131 (by decide) ?_
    refine aw_callV dX11_writePlanes_132 at_mod cvX11_280 rfl (kF_X11_put_ mo s127.1 mr ms mt s127.2 dd wi hi gt sp ta li sr co hb _  1 (fon_ne hE hF)) rfl (Nat.le_of_ble_eq_true rfl) (by decide) (by decide) (by decide) (by decide) (fun _ _ _ hf => False.elim hf) (fun r132 h132 n132 hp132 => ?_)
    obtain ⟨z132, s132, e132, rfl, rfl, rfl⟩ := hp132
    replace hE := fon_ok e132 hE
    refine aw_iconst (v := 0) dX11_writePlanes_135 (by decide) ?_
    refine aw_istore (lv2 := [(5, _), (0, _), (1, _), (2, _), (3, _), (4, _)]) dX11_writePlanes_136 (by decide) rfl ?_
    exact aw_lv _ (List.forall_mem_cons.mpr ⟨rfl, (List.forall_mem_cons.mpr ⟨rfl, (List.forall_mem_cons.mpr ⟨rfl, (List.forall_mem_cons.mpr ⟨rfl, (List.forall_mem_cons.mpr ⟨rfl, (List.forall_mem_cons.mpr ⟨rfl, fun _ h => absurd h List.not_mem_nil⟩)⟩)⟩)⟩)⟩)⟩) (lp_ind (Q_X11_writePlanes_138 mo mr ms mt dd wi hi gt sp ta li sr hb n) (fun _ _ _ _ _ _ _ _ res hq hF => (hF hq.symm).elim) (fun k hk => b_X11_writePlanes_138 mo mr ms mt dd wi hi gt sp ta li sr hb n   k hk) FU v1 v2 v3 v4 (0 : Int32) s132.1 s132.2 co _ hE hF)
  · replace hE := fif hE c104
    refine aw_aload_n dX11_writePlanes_107 rfl ?_
    refine aw_iconst (v := 0) dX11_writePlanes_108 (by decide) ?_
    refine aw_callV dX11_writePlanes_109 at_mod cvX11_280 rfl (kF_X11_put_ mo mw mr ms mt mu dd wi hi gt sp ta li sr co hb _  0 (fon_ne hE hF)) rfl (Nat.le_of_ble_eq_true rfl) (by decide) (by decide) (by decide) (by decide) (fun _ _ _ hf => False.elim hf) (fun r109 h109 n109 hp109 => ?_)
    obtain ⟨z109, s109, e109, rfl, rfl, rfl⟩ := hp109
    replace hE := fon_ok e109 hE
    refine aw_iinc (v := (v5 + 1)) (lv2 := [(5, _), (0, _), (1, _), (2, _), (3, _), (4, _)]) dX11_writePlanes_112 rfl (incE (by decide)) (by decide) rfl ?_
    refine aw_goto (tgt := 100) dX11_writePlanes_115 (by decide) ?_
    exact aw_lv _ (List.forall_mem_cons.mpr ⟨rfl, (List.forall_mem_cons.mpr ⟨rfl, (List.forall_mem_cons.mpr ⟨rfl, (List.forall_mem_cons.mpr ⟨rfl, (List.forall_mem_cons.mpr ⟨rfl, (List.forall_mem_cons.mpr ⟨rfl, fun _ h => absurd h List.not_mem_nil⟩)⟩)⟩)⟩)⟩)⟩) (hk100 v1 v2 v3 v4 (v5 + 1) s109.1 s109.2 co _ hE hF)
def F_X11_writePlanes_11 (dd : A) (wi : A) (hi : A)  (v1 : Int32) (v2 : Int32) (t0 : Int32) (mw : MW) (mu : A) (co : A) : Out (MW × A × A) Unit := if inb v1 4 then (if inb v1 4 then (fon (F_X11_put_ 10 mw mu) (fun z32 s32 => fon (F_X11_put_ 5 s32.1 s32.2) (fun z37 s37 => fon (F_X11_put_ 1 s37.1 s37.2) (fun z42 s42 => fon (F_X11_put_ 8 s42.1 s42.2) (fun z48 s48 => fon (F_X11_putLow 0 4 s48.1 s48.2) (fun z54 s54 => if inb v1 4 then (fon (F_X11_putLow ((wi (Int32.toNatClampNeg v1)) - 1) 2 s54.1 s54.2) (fun z67 s67 => if inb v1 4 then (fon (F_X11_putLow ((hi (Int32.toNatClampNeg v1)) - 1) 2 s67.1 s67.2) (fun z80 s80 => fon (F_X11_putLow 72 2 s80.1 s80.2) (fun z87 s87 => fon (F_X11_putLow 72 2 s87.1 s87.2) (fun z94 s94 => lp (fun _ _ _ _ _ _ _ _ => fno) (F_X11_writePlanes_100 dd wi hi) FU v1 v2 t0 ((wi (Int32.toNatClampNeg v1)) + ((wi (Int32.toNatClampNeg v1)) - (wi (Int32.toNatClampNeg v1)) / 2 * 2)) (0 : Int32) s94.1 s94.2 co) (fun _ _ => fno)) (fun _ _ => fno)) (fun _ _ => fno)) else fno) (fun _ _ => fno)) else fno) (fun _ _ => fno)) (fun _ _ => fno)) (fun _ _ => fno)) (fun _ _ => fno)) (fun _ _ => fno)) else fno) else fno
set_option maxHeartbeats 1000000 in
set_option maxRecDepth 100000 in
theorem b_X11_writePlanes_11 (mo : MO) (mr : MR) (ms : Nat) (mt : A) (dd : A) (wi : A) (hi : A) (gt : A) (sp : A) (ta : A) (li : A) (sr : A) (hb : aH) (n : Nat)   : Q_X11_writePlanes_11 mo mr ms mt dd wi hi gt sp ta li sr hb n (F_X11_writePlanes_11 dd wi hi) := by
  intro v1 v2 t0 mw mu co res hE hF
  unfold F_X11_writePlanes_11 at hE
  refine aw_istore_n (lv2 := [(3, _), (0, _), (1, _), (2, _)]) dX11_writePlanes_11 (by decide) rfl ?_
  refine aw_aload_n dX11_writePlanes_12 rfl ?_
  refine aw_getf (v := .ref 35) dX11_writePlanes_13 flX11_21_10 at_mod rfl ?_
  refine aw_iload_n dX11_writePlanes_16 rfl ?_
  obtain ⟨g17, hE⟩ := fgd hE hF
  refine aw_iald (f := wi) dX11_writePlanes_17 at_mwide (vp_in_iff.mpr g17) ?_
  refine aw_aload_n dX11_writePlanes_18 rfl ?_
  refine aw_getf (v := .ref 35) dX11_writePlanes_19 flX11_21_10 at_mod rfl ?_
  refine aw_iload_n dX11_writePlanes_22 rfl ?_
  obtain ⟨g23, hE⟩ := fgd hE hF
  refine aw_iald (f := wi) dX11_writePlanes_23 at_mwide (vp_in_iff.mpr g23) ?_
  refine aw_iconst (v := 2) dX11_writePlanes_24 (by decide) ?_
  refine aw_irem dX11_writePlanes_25 (by decide) ?_
  refine aw_iadd dX11_writePlanes_26 ?_
  refine aw_istore (lv2 := [(4, _), (3, _), (0, _), (1, _), (2, _)]) dX11_writePlanes_27 (by decide) rfl ?_
  refine aw_aload_n dX11_writePlanes_29 rfl ?_
  refine aw_bipush (v := 10) dX11_writePlanes_30 (by decide) ?_
  refine aw_callV dX11_writePlanes_32 at_mod cvX11_280 rfl (kF_X11_put_ mo mw mr ms mt mu dd wi hi gt sp ta li sr co hb _  10 (fon_ne hE hF)) rfl (Nat.le_of_ble_eq_true rfl) (by decide) (by decide) (by decide) (by decide) (fun _ _ _ hf => False.elim hf) (fun r32 h32 n32 hp32 => ?_)
  obtain ⟨z32, s32, e32, rfl, rfl, rfl⟩ := hp32
  replace hE := fon_ok e32 hE
  refine aw_aload_n dX11_writePlanes_35 rfl ?_
  refine aw_iconst (v := 5) dX11_writePlanes_36 (by decide) ?_
  refine aw_callV dX11_writePlanes_37 at_mod cvX11_280 rfl (kF_X11_put_ mo s32.1 mr ms mt s32.2 dd wi hi gt sp ta li sr co hb _  5 (fon_ne hE hF)) rfl (Nat.le_of_ble_eq_true rfl) (by decide) (by decide) (by decide) (by decide) (fun _ _ _ hf => False.elim hf) (fun r37 h37 n37 hp37 => ?_)
  obtain ⟨z37, s37, e37, rfl, rfl, rfl⟩ := hp37
  replace hE := fon_ok e37 hE
  refine aw_aload_n dX11_writePlanes_40 rfl ?_
  refine aw_iconst (v := 1) dX11_writePlanes_41 (by decide) ?_
  refine aw_callV dX11_writePlanes_42 at_mod cvX11_280 rfl (kF_X11_put_ mo s37.1 mr ms mt s37.2 dd wi hi gt sp ta li sr co hb _  1 (fon_ne hE hF)) rfl (Nat.le_of_ble_eq_true rfl) (by decide) (by decide) (by decide) (by decide) (fun _ _ _ hf => False.elim hf) (fun r42 h42 n42 hp42 => ?_)
  obtain ⟨z42, s42, e42, rfl, rfl, rfl⟩ := hp42
  replace hE := fon_ok e42 hE
  refine aw_aload_n dX11_writePlanes_45 rfl ?_
  refine aw_bipush (v := 8) dX11_writePlanes_46 (by decide) ?_
  refine aw_callV dX11_writePlanes_48 at_mod cvX11_280 rfl (kF_X11_put_ mo s42.1 mr ms mt s42.2 dd wi hi gt sp ta li sr co hb _  8 (fon_ne hE hF)) rfl (Nat.le_of_ble_eq_true rfl) (by decide) (by decide) (by decide) (by decide) (fun _ _ _ hf => False.elim hf) (fun r48 h48 n48 hp48 => ?_)
  obtain ⟨z48, s48, e48, rfl, rfl, rfl⟩ := hp48
  replace hE := fon_ok e48 hE
  refine aw_aload_n dX11_writePlanes_51 rfl ?_
  refine aw_iconst (v := 0) dX11_writePlanes_52 (by decide) ?_
  refine aw_iconst (v := 4) dX11_writePlanes_53 (by decide) ?_
  refine aw_callV dX11_writePlanes_54 at_mod cvX11_296 rfl (kF_X11_putLow mo s48.1 mr ms mt s48.2 dd wi hi gt sp ta li sr co hb _  0 4 (fon_ne hE hF)) rfl (Nat.le_of_ble_eq_true rfl) (by decide) (by decide) (by decide) (by decide) (fun _ _ _ hf => False.elim hf) (fun r54 h54 n54 hp54 => ?_)
  obtain ⟨z54, s54, e54, rfl, rfl, rfl⟩ := hp54
  replace hE := fon_ok e54 hE
  refine aw_aload_n dX11_writePlanes_57 rfl ?_
  refine aw_aload_n dX11_writePlanes_58 rfl ?_
  refine aw_getf (v := .ref 35) dX11_writePlanes_59 flX11_21_10 at_mod rfl ?_
  refine aw_iload_n dX11_writePlanes_62 rfl ?_
  obtain ⟨g63, hE⟩ := fgd hE hF
  refine aw_iald (f := wi) dX11_writePlanes_63 at_mwide (vp_in_iff.mpr g63) ?_
  refine aw_iconst (v := 1) dX11_writePlanes_64 (by decide) ?_
  refine aw_isub dX11_writePlanes_65 ?_
  refine aw_iconst (v := 2) dX11_writePlanes_66 (by decide) ?_
  refine aw_callV dX11_writePlanes_67 at_mod cvX11_296 rfl (kF_X11_putLow mo s54.1 mr ms mt s54.2 dd wi hi gt sp ta li sr co hb _  ((wi (Int32.toNatClampNeg v1)) - 1) 2 (fon_ne hE hF)) rfl (Nat.le_of_ble_eq_true rfl) (by decide) (by decide) (by decide) (by decide) (fun _ _ _ hf => False.elim hf) (fun r67 h67 n67 hp67 => ?_)
  obtain ⟨z67, s67, e67, rfl, rfl, rfl⟩ := hp67
  replace hE := fon_ok e67 hE
  refine aw_aload_n dX11_writePlanes_70 rfl ?_
  refine aw_aload_n dX11_writePlanes_71 rfl ?_
  refine aw_getf (v := .ref 36) dX11_writePlanes_72 flX11_24_10 at_mod rfl ?_
  refine aw_iload_n dX11_writePlanes_75 rfl ?_
  obtain ⟨g76, hE⟩ := fgd hE hF
  refine aw_iald (f := hi) dX11_writePlanes_76 at_mhigh (vp_in_iff.mpr g76) ?_
  refine aw_iconst (v := 1) dX11_writePlanes_77 (by decide) ?_
  refine aw_isub dX11_writePlanes_78 ?_
  refine aw_iconst (v := 2) dX11_writePlanes_79 (by decide) ?_
  refine aw_callV dX11_writePlanes_80 at_mod cvX11_296 rfl (kF_X11_putLow mo s67.1 mr ms mt s67.2 dd wi hi gt sp ta li sr co hb _  ((hi (Int32.toNatClampNeg v1)) - 1) 2 (fon_ne hE hF)) rfl (Nat.le_of_ble_eq_true rfl) (by decide) (by decide) (by decide) (by decide) (fun _ _ _ hf => False.elim hf) (fun r80 h80 n80 hp80 => ?_)
  obtain ⟨z80, s80, e80, rfl, rfl, rfl⟩ := hp80
  replace hE := fon_ok e80 hE
  refine aw_aload_n dX11_writePlanes_83 rfl ?_
  refine aw_bipush (v := 72) dX11_writePlanes_84 (by decide) ?_
  refine aw_iconst (v := 2) dX11_writePlanes_86 (by decide) ?_
  refine aw_callV dX11_writePlanes_87 at_mod cvX11_296 rfl (kF_X11_putLow mo s80.1 mr ms mt s80.2 dd wi hi gt sp ta li sr co hb _  72 2 (fon_ne hE hF)) rfl (Nat.le_of_ble_eq_true rfl) (by decide) (by decide) (by decide) (by decide) (fun _ _ _ hf => False.elim hf) (fun r87 h87 n87 hp87 => ?_)
  obtain ⟨z87, s87, e87, rfl, rfl, rfl⟩ := hp87
  replace hE := fon_ok e87 hE
  refine aw_aload_n dX11_writePlanes_90 rfl ?_
  refine aw_bipush (v := 72) dX11_writePlanes_91 (by decide) ?_
  refine aw_iconst (v := 2) dX11_writePlanes_93 (by decide) ?_
  refine aw_callV dX11_writePlanes_94 at_mod cvX11_296 rfl (kF_X11_putLow mo s87.1 mr ms mt s87.2 dd wi hi gt sp ta li sr co hb _  72 2 (fon_ne hE hF)) rfl (Nat.le_of_ble_eq_true rfl) (by decide) (by decide) (by decide) (by decide) (fun _ _ _ hf => False.elim hf) (fun r94 h94 n94 hp94 => ?_)
  obtain ⟨z94, s94, e94, rfl, rfl, rfl⟩ := hp94
  replace hE := fon_ok e94 hE
  refine aw_iconst (v := 0) dX11_writePlanes_97 (by decide) ?_
  refine aw_istore (lv2 := [(5, _), (4, _), (3, _), (0, _), (1, _), (2, _)]) dX11_writePlanes_98 (by decide) rfl ?_
  exact aw_lv _ (List.forall_mem_cons.mpr ⟨rfl, (List.forall_mem_cons.mpr ⟨rfl, (List.forall_mem_cons.mpr ⟨rfl, (List.forall_mem_cons.mpr ⟨rfl, (List.forall_mem_cons.mpr ⟨rfl, (List.forall_mem_cons.mpr ⟨rfl, fun _ h => absurd h List.not_mem_nil⟩)⟩)⟩)⟩)⟩)⟩) (lp_ind (Q_X11_writePlanes_100 mo mr ms mt dd wi hi gt sp ta li sr hb n) (fun _ _ _ _ _ _ _ _ res hq hF => (hF hq.symm).elim) (fun k hk => b_X11_writePlanes_100 mo mr ms mt dd wi hi gt sp ta li sr hb n   k hk) FU v1 v2 t0 ((wi (Int32.toNatClampNeg v1)) + ((wi (Int32.toNatClampNeg v1)) - (wi (Int32.toNatClampNeg v1)) / 2 * 2)) (0 : Int32) s94.1 s94.2 co _ hE hF)
def F_X11_writePlanes (a1 : Int32) (a2 : Int32) (mw : MW) (mu : A) (dd : A) (wi : A) (hi : A) (co : A) : Out (MW × A × A) Unit := if a2 = 16 then (F_X11_writePlanes_11 dd wi hi a1 a2 (3 : Int32) mw mu co) else (F_X11_writePlanes_11 dd wi hi a1 a2 (1 : Int32) mw mu co)
set_option maxHeartbeats 1000000 in
set_option maxRecDepth 100000 in
theorem kF_X11_writePlanes (mo : MO) (mw : MW) (mr : MR) (ms : Nat) (mt : A) (mu : A) (dd : A) (wi : A) (hi : A) (gt : A) (sp : A) (ta : A) (li : A) (sr : A) (co : A) (hb : aH) (n : Nat)  (a1 : Int32) (a2 : Int32) (hF : F_X11_writePlanes a1 a2 mw mu dd wi hi co ≠ fno) : AM mX11_writePlanes 3 [.ref 31, .int a1, .int a2] (HM mo mw mr ms mt mu dd wi hi gt sp ta li sr co hb) n 0 0 0 0 (P_X11_writePlanes mo mr ms mt dd wi hi gt sp ta li sr hb n (F_X11_writePlanes a1 a2 mw mu dd wi hi co)) (fun _ _ _ => False) := by
  generalize hE : F_X11_writePlanes a1 a2 mw mu dd wi hi co = res at hF ⊢
  refine aw_of (by decide +kernel) rfl (Nat.le_of_ble_eq_true rfl) ?_
  unfold F_X11_writePlanes at hE
  refine aw_iload_n dX11_writePlanes_0 rfl ?_
  refine aw_bipush (v := 16) dX11_writePlanes_1 (by decide) ?_
  refine aw_icmp_ne (tgt := 10) dX11_writePlanes_3 (by decide) (fun c3 => ?_) (fun c3 => ?_)
  · replace hE := fif hE c3
    refine aw_iconst (v := 1) dX11_writePlanes_10 (by decide) ?_
    exact aw_lv _ (List.forall_mem_cons.mpr ⟨rfl, (List.forall_mem_cons.mpr ⟨rfl, (List.forall_mem_cons.mpr ⟨rfl, fun _ h => absurd h List.not_mem_nil⟩)⟩)⟩) (b_X11_writePlanes_11 mo mr ms mt dd wi hi gt sp ta li sr hb n   a1 a2 (1 : Int32) mw mu co _ hE hF)
  · replace hE := fit hE c3
    refine aw_iconst (v := 3) dX11_writePlanes_6 (by decide) ?_
    refine aw_goto (tgt := 11) dX11_writePlanes_7 (by decide) ?_
    exact aw_lv _ (List.forall_mem_cons.mpr ⟨rfl, (List.forall_mem_cons.mpr ⟨rfl, (List.forall_mem_cons.mpr ⟨rfl, fun _ h => absurd h List.not_mem_nil⟩)⟩)⟩) (b_X11_writePlanes_11 mo mr ms mt dd wi hi gt sp ta li sr hb n   a1 a2 (3 : Int32) mw mu co _ hE hF)
