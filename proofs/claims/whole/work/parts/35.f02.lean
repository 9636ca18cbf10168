def P_X11_putNumber_1 (mo : MO) (mr : MR) (ms : Nat) (mt : A) (dd : A) (wi : A) (hi : A) (gt : A) (sp : A) (ta : A) (li : A) (sr : A) (co : A) (hb : aH) (n : Nat) (res : Out (MW × A) Unit) : Option Value → aH → Nat → Prop := fun r1 h2 n2 => ∃ (a : Unit) (s : (MW × A)), res = fok a s ∧ r1 = none ∧ h2 = HM mo s.1 mr ms mt s.2 dd wi hi gt sp ta li sr co hb ∧ n = n2
abbrev Q_X11_putNumber_1_14 (mo : MO) (mr : MR) (ms : Nat) (mt : A) (dd : A) (wi : A) (hi : A) (gt : A) (sp : A) (ta : A) (li : A) (sr : A) (co : A) (hb : aH) (n : Nat) (k : Int32 → MW → A → Out (MW × A) Unit) : Prop := ∀ (v1 : Int32) (mw : MW) (mu : A) (res : Out (MW × A) Unit), k v1 mw mu = res → res ≠ fno → AW (fun _ _ => True) mX11_putNumber (rmD 2 0 0) 0 0 (P_X11_putNumber_1 mo mr ms mt dd wi hi gt sp ta li sr co hb n res) (fun _ _ _ => False) 0 0 14 [(0, .ref 31), (1, .int v1)] [] (HM mo mw mr ms mt mu dd wi hi gt sp ta li sr co hb) n
def F_X11_putNumber_1_14   (v1 : Int32) (mw : MW) (mu : A) : Out (MW × A) Unit := fon (F_X11_put_ (48 + (v1 - v1 / 10 * 10)) mw mu) (fun z22 s22 => fok () (s22.1, s22.2)) (fun _ _ => fno)
set_option maxHeartbeats 1000000 in
set_option maxRecDepth 100000 in
theorem b_X11_putNumber_1_14 (mo : MO) (mr : MR) (ms : Nat) (mt : A) (dd : A) (wi : A) (hi : A) (gt : A) (sp : A) (ta : A) (li : A) (sr : A) (co : A) (hb : aH) (n : Nat)   : Q_X11_putNumber_1_14 mo mr ms mt dd wi hi gt sp ta li sr co hb n (F_X11_putNumber_1_14 ) := by
  intro v1 mw mu res hE hF
  unfold F_X11_putNumber_1_14 at hE
  refine aw_aload_n dX11_putNumber_14 rfl ?_
  refine aw_bipush (v := 48) dX11_putNumber_15 (by decide) ?_
  refine aw_iload_n dX11_putNumber_17 rfl ?_
  refine aw_bipush (v := 10) dX11_putNumber_18 (by decide) ?_
  refine aw_irem dX11_putNumber_20 (by decide) ?_
  refine aw_iadd dX11_putNumber_21 ?_
  refine aw_callV dX11_putNumber_22 at_mod cvX11_280 rfl (kF_X11_put_ mo mw mr ms mt mu dd wi hi gt sp ta li sr co hb _  (48 + (v1 - v1 / 10 * 10)) (fon_ne hE hF)) rfl (Nat.le_of_ble_eq_true rfl) (by decide) (by decide) (by decide) (by decide) (fun _ _ _ hf => False.elim hf) (fun r22 h22 n22 hp22 => ?_)
  obtain ⟨z22, s22, e22, rfl, rfl, rfl⟩ := hp22
  replace hE := fon_ok e22 hE
  exact aw_vret dX11_putNumber_25 rfl (Nat.zero_le _) (Nat.zero_le _) (Nat.zero_le _) (Nat.zero_le _) ⟨_, _, hE.symm, rfl, rfl, rfl⟩
def F_X11_putNumber_1 (a1 : Int32) (mw : MW) (mu : A) : Out (MW × A) Unit := if a1 ≤ 9 then (F_X11_putNumber_1_14  a1 mw mu) else (fno)
set_option maxHeartbeats 1000000 in
set_option maxRecDepth 100000 in
theorem kF_X11_putNumber_1 (mo : MO) (mw : MW) (mr : MR) (ms : Nat) (mt : A) (mu : A) (dd : A) (wi : A) (hi : A) (gt : A) (sp : A) (ta : A) (li : A) (sr : A) (co : A) (hb : aH) (n : Nat)  (a1 : Int32) (hF : F_X11_putNumber_1 a1 mw mu ≠ fno) : AM mX11_putNumber 2 [.ref 31, .int a1] (HM mo mw mr ms mt mu dd wi hi gt sp ta li sr co hb) n 0 0 0 0 (P_X11_putNumber_1 mo mr ms mt dd wi hi gt sp ta li sr co hb n (F_X11_putNumber_1 a1 mw mu)) (fun _ _ _ => False) := by
  generalize hE : F_X11_putNumber_1 a1 mw mu = res at hF ⊢
  refine aw_of (by decide +kernel) rfl (Nat.le_of_ble_eq_true rfl) ?_
  unfold F_X11_putNumber_1 at hE
  refine aw_iload_n dX11_putNumber_0 rfl ?_
  refine aw_bipush (v := 9) dX11_putNumber_1 (by decide) ?_
  refine aw_icmp_le (tgt := 14) dX11_putNumber_3 (by decide) (fun c3 => ?_) (fun c3 => ?_)
  · replace hE := fit hE c3
    exact aw_lv _ (List.forall_mem_cons.mpr ⟨rfl, (List.forall_mem_cons.mpr ⟨rfl, fun _ h => absurd h List.not_mem_nil⟩)⟩) (b_X11_putNumber_1_14 mo mr ms mt dd wi hi gt sp ta li sr co hb n   a1 mw mu _ hE hF)
  · replace hE := fif hE c3
    refine aw_aload_n dX11_putNumber_6 rfl ?_
    refine aw_iload_n dX11_putNumber_7 rfl ?_
    refine aw_bipush (v := 10) dX11_putNumber_8 (by decide) ?_
    refine aw_idiv dX11_putNumber_10 (by decide) ?_
    exact (hF hE.symm).elim
def P_X11_putNumber_2 (mo : MO) (mr : MR) (ms : Nat) (mt : A) (dd : A) (wi : A) (hi : A) (gt : A) (sp : A) (ta : A) (li : A) (sr : A) (co : A) (hb : aH) (n : Nat) (res : Out (MW × A) Unit) : Option Value → aH → Nat → Prop := fun r1 h2 n2 => ∃ (a : Unit) (s : (MW × A)), res = fok a s ∧ r1 = none ∧ h2 = HM mo s.1 mr ms mt s.2 dd wi hi gt sp ta li sr co hb ∧ n = n2
abbrev Q_X11_putNumber_2_14 (mo : MO) (mr : MR) (ms : Nat) (mt : A) (dd : A) (wi : A) (hi : A) (gt : A) (sp : A) (ta : A) (li : A) (sr : A) (co : A) (hb : aH) (n : Nat) (k : Int32 → MW → A → Out (MW × A) Unit) : Prop := ∀ (v1 : Int32) (mw : MW) (mu : A) (res : Out (MW × A) Unit), k v1 mw mu = res → res ≠ fno → AW (fun _ _ => True) mX11_putNumber (rmD 3 0 0) 0 0 (P_X11_putNumber_2 mo mr ms mt dd wi hi gt sp ta li sr co hb n res) (fun _ _ _ => False) 0 0 14 [(0, .ref 31), (1, .int v1)] [] (HM mo mw mr ms mt mu dd wi hi gt sp ta li sr co hb) n
def F_X11_putNumber_2_14   (v1 : Int32) (mw : MW) (mu : A) : Out (MW × A) Unit := fon (F_X11_put_ (48 + (v1 - v1 / 10 * 10)) mw mu) (fun z22 s22 => fok () (s22.1, s22.2)) (fun _ _ => fno)
set_option maxHeartbeats 1000000 in
set_option maxRecDepth 100000 in
theorem b_X11_putNumber_2_14 (mo : MO) (mr : MR) (ms : Nat) (mt : A) (dd : A) (wi : A) (hi : A) (gt : A) (sp : A) (ta : A) (li : A) (sr : A) (co : A) (hb : aH) (n : Nat)   : Q_X11_putNumber_2_14 mo mr ms mt dd wi hi gt sp ta li sr co hb n (F_X11_putNumber_2_14 ) := by
  intro v1 mw mu res hE hF
  unfold F_X11_putNumber_2_14 at hE
  refine aw_aload_n dX11_putNumber_14 rfl ?_
  refine aw_bipush (v := 48) dX11_putNumber_15 (by decide) ?_
  refine aw_iload_n dX11_putNumber_17 rfl ?_
  refine aw_bipush (v := 10) dX11_putNumber_18 (by decide) ?_
  refine aw_irem dX11_putNumber_20 (by decide) ?_
  refine aw_iadd dX11_putNumber_21 ?_
  refine aw_callV dX11_putNumber_22 at_mod cvX11_280 rfl (kF_X11_put_ mo mw mr ms mt mu dd wi hi gt sp ta li sr co hb _  (48 + (v1 - v1 / 10 * 10)) (fon_ne hE hF)) rfl (Nat.le_of_ble_eq_true rfl) (by decide) (by decide) (by decide) (by decide) (fun _ _ _ hf => False.elim hf) (fun r22 h22 n22 hp22 => ?_)
  obtain ⟨z22, s22, e22, rfl, rfl, rfl⟩ := hp22
  replace hE := fon_ok e22 hE
  exact aw_vret dX11_putNumber_25 rfl (Nat.zero_le _) (Nat.zero_le _) (Nat.zero_le _) (Nat.zero_le _) ⟨_, _, hE.symm, rfl, rfl, rfl⟩
def F_X11_putNumber_2 (a1 : Int32) (mw : MW) (mu : A) : Out (MW × A) Unit := if a1 ≤ 9 then (F_X11_putNumber_2_14  a1 mw mu) else (fon (F_X11_putNumber_1 (a1 / 10) mw mu) (fun z11 s11 => F_X11_putNumber_2_14  a1 s11.1 s11.2) (fun _ _ => fno))
set_option maxHeartbeats 1000000 in
set_option maxRecDepth 100000 in
theorem kF_X11_putNumber_2 (mo : MO) (mw : MW) (mr : MR) (ms : Nat) (mt : A) (mu : A) (dd : A) (wi : A) (hi : A) (gt : A) (sp : A) (ta : A) (li : A) (sr : A) (co : A) (hb : aH) (n : Nat)  (a1 : Int32) (hF : F_X11_putNumber_2 a1 mw mu ≠ fno) : AM mX11_putNumber 3 [.ref 31, .int a1] (HM mo mw mr ms mt mu dd wi hi gt sp ta li sr co hb) n 0 0 0 0 (P_X11_putNumber_2 mo mr ms mt dd wi hi gt sp ta li sr co hb n (F_X11_putNumber_2 a1 mw mu)) (fun _ _ _ => False) := by
  generalize hE : F_X11_putNumber_2 a1 mw mu = res at hF ⊢
  refine aw_of (by decide +kernel) rfl (Nat.le_of_ble_eq_true rfl) ?_
  unfold F_X11_putNumber_2 at hE
  refine aw_iload_n dX11_putNumber_0 rfl ?_
  refine aw_bipush (v := 9) dX11_putNumber_1 (by decide) ?_
  refine aw_icmp_le (tgt := 14) dX11_putNumber_3 (by decide) (fun c3 => ?_) (fun c3 => ?_)
  · replace hE := fit hE c3
    exact aw_lv _ (List.forall_mem_cons.mpr ⟨rfl, (List.forall_mem_cons.mpr ⟨rfl, fun _ h => absurd h List.not_mem_nil⟩)⟩) (b_X11_putNumber_2_14 mo mr ms mt dd wi hi gt sp ta li sr co hb n   a1 mw mu _ hE hF)
  · replace hE := fif hE c3
    refine aw_aload_n dX11_putNumber_6 rfl ?_
    refine aw_iload_n dX11_putNumber_7 rfl ?_
    refine aw_bipush (v := 10) dX11_putNumber_8 (by decide) ?_
    refine aw_idiv dX11_putNumber_10 (by decide) ?_
    refine aw_callV dX11_putNumber_11 at_mod cvX11_282 rfl (kF_X11_putNumber_1 mo mw mr ms mt mu dd wi hi gt sp ta li sr co hb _  (a1 / 10) (fon_ne hE hF)) rfl (Nat.le_of_ble_eq_true rfl) (by decide) (by decide) (by decide) (by decide) (fun _ _ _ hf => False.elim hf) (fun r11 h11 n11 hp11 => ?_)
    obtain ⟨z11, s11, e11, rfl, rfl, rfl⟩ := hp11
    replace hE := fon_ok e11 hE
    exact aw_lv _ (List.forall_mem_cons.mpr ⟨rfl, (List.forall_mem_cons.mpr ⟨rfl, fun _ h => absurd h List.not_mem_nil⟩)⟩) (b_X11_putNumber_2_14 mo mr ms mt dd wi hi gt sp ta li sr co hb n   a1 s11.1 s11.2 _ hE hF)
def P_X11_putNumber_3 (mo : MO) (mr : MR) (ms : Nat) (mt : A) (dd : A) (wi : A) (hi : A) (gt : A) (sp : A) (ta : A) (li : A) (sr : A) (co : A) (hb : aH) (n : Nat) (res : Out (MW × A) Unit) : Option Value → aH → Nat → Prop := fun r1 h2 n2 => ∃ (a : Unit) (s : (MW × A)), res = fok a s ∧ r1 = none ∧ h2 = HM mo s.1 mr ms mt s.2 dd wi hi gt sp ta li sr co hb ∧ n = n2
abbrev Q_X11_putNumber_3_14 (mo : MO) (mr : MR) (ms : Nat) (mt : A) (dd : A) (wi : A) (hi : A) (gt : A) (sp : A) (ta : A) (li : A) (sr : A) (co : A) (hb : aH) (n : Nat) (k : Int32 → MW → A → Out (MW × A) Unit) : Prop := ∀ (v1 : Int32) (mw : MW) (mu : A) (res : Out (MW × A) Unit), k v1 mw mu = res → res ≠ fno → AW (fun _ _ => True) mX11_putNumber (rmD 4 0 0) 0 0 (P_X11_putNumber_3 mo mr ms mt dd wi hi gt sp ta li sr co hb n res) (fun _ _ _ => False) 0 0 14 [(0, .ref 31), (1, .int v1)] [] (HM mo mw mr ms mt mu dd wi hi gt sp ta li sr co hb) n
def F_X11_putNumber_3_14   (v1 : Int32) (mw : MW) (mu : A) : Out (MW × A) Unit := fon (F_X11_put_ (48 + (v1 - v1 / 10 * 10)) mw mu) (fun z22 s22 => fok () (s22.1, s22.2)) (fun _ _ => fno)
set_option maxHeartbeats 1000000 in
set_option maxRecDepth 100000 in
theorem b_X11_putNumber_3_14 (mo : MO) (mr : MR) (ms : Nat) (mt : A) (dd : A) (wi : A) (hi : A) (gt : A) (sp : A) (ta : A) (li : A) (sr : A) (co : A) (hb : aH) (n : Nat)   : Q_X11_putNumber_3_14 mo mr ms mt dd wi hi gt sp ta li sr co hb n (F_X11_putNumber_3_14 ) := by
  intro v1 mw mu res hE hF
  unfold F_X11_putNumber_3_14 at hE
  refine aw_aload_n dX11_putNumber_14 rfl ?_
  refine aw_bipush (v := 48) dX11_putNumber_15 (by decide) ?_
  refine aw_iload_n dX11_putNumber_17 rfl ?_
  refine aw_bipush (v := 10) dX11_putNumber_18 (by decide) ?_
  refine aw_irem dX11_putNumber_20 (by decide) ?_
  refine aw_iadd dX11_putNumber_21 ?_
  refine aw_callV dX11_putNumber_22 at_mod cvX11_280 rfl (kF_X11_put_ mo mw mr ms mt mu dd wi hi gt sp ta li sr co hb _  (48 + (v1 - v1 / 10 * 10)) (fon_ne hE hF)) rfl (Nat.le_of_ble_eq_true rfl) (by decide) (by decide) (by decide) (by decide) (fun _ _ _ hf => False.elim hf) (fun r22 h22 n22 hp22 => ?_)
  obtain ⟨z22, s22, e22, rfl, rfl, rfl⟩ := hp22
  replace hE := fon_ok e22 hE
  exact aw_vret dX11_putNumber_25 rfl (Nat.zero_le _) (Nat.zero_le _) (Nat.zero_le _) (Nat.zero_le _) ⟨_, _, hE.symm, rfl, rfl, rfl⟩
def F_X11_putNumber_3 (a1 : Int32) (mw : MW) (mu : A) : Out (MW × A) Unit := if a1 ≤ 9 then (F_X11_putNumber_3_14  a1 mw mu) else (fon (F_X11_putNumber_2 (a1 / 10) mw mu) (fun z11 s11 => F_X11_putNumber_3_14  a1 s11.1 s11.2) (fun _ _ => fno))
set_option maxHeartbeats 1000000 in
set_option maxRecDepth 100000 in
theorem kF_X11_putNumber_3 (mo : MO) (mw : MW) (mr : MR) (ms : Nat) (mt : A) (mu : A) (dd : A) (wi : A) (hi : A) (gt : A) (sp : A) (ta : A) (li : A) (sr : A) (co : A) (hb : aH) (n : Nat)  (a1 : Int32) (hF : F_X11_putNumber_3 a1 mw mu ≠ fno) : AM mX11_putNumber 4 [.ref 31, .int a1] (HM mo mw mr ms mt mu dd wi hi gt sp ta li sr co hb) n 0 0 0 0 (P_X11_putNumber_3 mo mr ms mt dd wi hi gt sp ta li sr co hb n (F_X11_putNumber_3 a1 mw mu)) (fun _ _ _ => False) := by
  generalize hE : F_X11_putNumber_3 a1 mw mu = res at hF ⊢
  refine aw_of (by decide +kernel) rfl (Nat.le_of_ble_eq_true rfl) ?_
  unfold F_X11_putNumber_3 at hE
  refine aw_iload_n dX11_putNumber_0 rfl ?_
  refine aw_bipush (v := 9) dX11_putNumber_1 (by decide) ?_
  refine aw_icmp_le (tgt := 14) dX11_putNumber_3 (by decide) (fun c3 => ?_) (fun c3 => ?_)
  · replace hE := fit hE c3
    exact aw_lv _ (List.forall_mem_cons.mpr ⟨rfl, (List.forall_mem_cons.mpr ⟨rfl, fun _ h => absurd h List.not_mem_nil⟩)⟩) (b_X11_putNumber_3_14 mo mr ms mt dd wi hi gt sp ta li sr co hb n   a1 mw mu _ hE hF)
  · replace hE := fif hE c3
    refine aw_aload_n dX11_putNumber_6 rfl ?_
    refine aw_iload_n dX11_putNumber_7 rfl ?_
    refine aw_bipush (v := 10) dX11_putNumber_8 (by decide) ?_
    refine aw_idiv dX11_putNumber_10 (by decide) ?_
    refine aw_callV dX11_putNumber_11 at_mod cvX11_282 rfl (kF_X11_putNumber_2 mo mw mr ms mt mu dd wi hi gt sp ta li sr co hb _  (a1 / 10) (fon_ne hE hF)) rfl (Nat.le_of_ble_eq_true rfl) (by decide) (by decide) (by decide) (by decide) (fun _ _ _ hf => False.elim hf) (fun r11 h11 n11 hp11 => ?_)
    obtain ⟨z11, s11, e11, rfl, rfl, rfl⟩ := hp11
    replace hE := fon_ok e11 hE
    exact aw_lv _ (List.forall_mem_cons.mpr ⟨rfl, (List.forall_mem_cons.mpr ⟨rfl, fun _ h => absurd h List.not_mem_nil⟩)⟩) (b_X11_putNumber_3_14 mo mr ms mt dd wi hi gt sp ta li sr co hb n   a1 s11.1 s11.2 _ hE hF)
def P_X11_putNumber_4 (mo : MO) (mr : MR) (ms : Nat) (mt : A) (dd : A) (wi : A) (hi : A) (gt : A) (sp : A) (ta : A) (li : A) (sr : A) (co : A) (hb : aH) (n : Nat) (res : Out (MW × A) Unit) : Option Value → aH → Nat → Prop := fun r1 h2 n2 => ∃ (a : Unit) (s : (MW × A)), res = fok a s ∧ r1 = none ∧ h2 = HM mo s.1 mr ms mt s.2 dd wi hi gt sp ta li sr co hb ∧ n = n2
abbrev Q_X11_putNumber_4_14 (mo : MO) (mr : MR) (ms : Nat) (mt : A) (dd : A) (wi : A) (hi : A) (gt : A) (sp : A) (ta : A) (li : A) (sr : A) (co : A) (hb : aH) (n : Nat) (k : Int32 → MW → A → Out (MW × A) Unit) : Prop := ∀ (v1 : Int32) (mw : MW) (mu : A) (res : Out (MW × A) Unit), k v1 mw mu = res → res ≠ fno → AW (fun _ _ => True) mX11_putNumber (rmD 5 0 0) 0 0 (P_X11_putNumber_4 mo mr ms mt dd wi hi gt sp ta li sr co hb n res) (fun _ _ _ => False) 0 0 14 [(0, .ref 31), (1, .int v1)] [] (HM mo mw mr ms mt mu dd wi hi gt sp ta li sr co hb) n
def F_X11_putNumber_4_14   (v1 : Int32) (mw : MW) (mu : A) : Out (MW × A) Unit := fon (F_X11_put_ (48 + (v1 - v1 / 10 * 10)) mw mu) (fun z22 s22 => fok () (s22.1, s22.2)) (fun _ _ => fno)
set_option maxHeartbeats 1000000 in
set_option maxRecDepth 100000 in
theorem b_X11_putNumber_4_14 (mo : MO) (mr : MR) (ms : Nat) (mt : A) (dd : A) (wi : A) (hi : A) (gt : A) (sp : A) (ta : A) (li : A) (sr : A) (co : A) (hb : aH) (n : Nat)   : Q_X11_putNumber_4_14 mo mr ms mt dd wi hi gt sp ta li sr co hb n (F_X11_putNumber_4_14 ) := by
  intro v1 mw mu res hE hF
  unfold F_X11_putNumber_4_14 at hE
  refine aw_aload_n dX11_putNumber_14 rfl ?_
  refine aw_bipush (v := 48) dX11_putNumber_15 (by decide) ?_
  refine aw_iload_n dX11_putNumber_17 rfl ?_
  refine aw_bipush (v := 10) dX11_putNumber_18 (by decide) ?_
  refine aw_irem dX11_putNumber_20 (by decide) ?_
  refine aw_iadd dX11_putNumber_21 ?_
  refine aw_callV dX11_putNumber_22 at_mod cvX11_280 rfl (kF_X11_put_ mo mw mr ms mt mu dd wi hi gt sp ta li sr co hb _  (48 + (v1 - v1 / 10 * 10)) (fon_ne hE hF)) rfl (Nat.le_of_ble_eq_true rfl) (by decide) (by decide) (by decide) (by decide) (fun _ _ _ hf => False.elim hf) (fun r22 h22 n22 hp22 => ?_)
  obtain ⟨z22, s22, e22, rfl, rfl, rfl⟩ := hp22
  replace hE := fon_ok e22 hE
  exact aw_vret dX11_putNumber_25 rfl (Nat.zero_le _) (Nat.zero_le _) (Nat.zero_le _) (Nat.zero_le _) ⟨_, _, hE.symm, rfl, rfl, rfl⟩
def F_X11_putNumber_4 (a1 : Int32) (mw : MW) (mu : A) : Out (MW × A) Unit := if a1 ≤ 9 then (F_X11_putNumber_4_14  a1 mw mu) else (fon (F_X11_putNumber_3 (a1 / 10) mw mu) (fun z11 s11 => F_X11_putNumber_4_14  a1 s11.1 s11.2) (fun _ _ => fno))
set_option maxHeartbeats 1000000 in
set_option maxRecDepth 100000 in
theorem kF_X11_putNumber_4 (mo : MO) (mw : MW) (mr : MR) (ms : Nat) (mt : A) (mu : A) (dd : A) (wi : A) (hi : A) (gt : A) (sp : A) (ta : A) (li : A) (sr : A) (co : A) (hb : aH) (n : Nat)  (a1 : Int32) (hF : F_X11_putNumber_4 a1 mw mu ≠ fno) : AM mX11_putNumber 5 [.ref 31, .int a1] (HM mo mw mr ms mt mu dd wi hi gt sp ta li sr co hb) n 0 0 0 0 (P_X11_putNumber_4 mo mr ms mt dd wi hi gt sp ta li sr co hb n (F_X11_putNumber_4 a1 mw mu)) (fun _ _ _ => False) := by
  generalize hE : F_X11_putNumber_4 a1 mw mu = res at hF ⊢
  refine aw_of (by decide +kernel) rfl (Nat.le_of_ble_eq_true rfl) ?_
  unfold F_X11_putNumber_4 at hE
  refine aw_iload_n dX11_putNumber_0 rfl ?_
  refine aw_bipush (v := 9) dX11_putNumber_1 (by decide) ?_
  refine aw_icmp_le (tgt := 14) dX11_putNumber_3 (by decide) (fun c3 => ?_) (fun c3 => ?_)
  · replace hE := fit hE c3
    exact aw_lv _ (List.forall_mem_cons.mpr ⟨rfl, (List.forall_mem_cons.mpr ⟨rfl, fun _ h => absurd h List.not_mem_nil⟩)⟩) (b_X11_putNumber_4_14 mo mr ms mt dd wi hi gt sp ta li sr co hb n   a1 mw mu _ hE hF)
  · replace hE := fif hE c3
    refine aw_aload_n dX11_putNumber_6 rfl ?_
    refine aw_iload_n dX11_putNumber_7 rfl ?_
    refine aw_bipush (v := 10) dX11_putNumber_8 (by decide) ?_
    refine aw_idiv dX11_putNumber_10 (by decide) ?_
    refine aw_callV dX11_putNumber_11 at_mod cvX11_282 rfl (kF_X11_putNumber_3 mo mw mr ms mt mu dd wi hi gt sp ta li sr co hb _  (a1 / 10) (fon_ne hE hF)) rfl (Nat.le_of_ble_eq_true rfl) (by decide) (by decide) (by decide) (by decide) (fun _ _ _ hf => False.elim hf) (fun r11 h11 n11 hp11 => ?_)
    obtain ⟨z11, s11, e11, rfl, rfl, rfl⟩ := hp11
    replace hE := fon_ok e11 hE
    exact aw_lv _ (List.forall_mem_cons.mpr ⟨rfl, (List.forall_mem_cons.mpr ⟨rfl, fun _ h => absurd h List.not_mem_nil⟩)⟩) (b_X11_putNumber_4_14 mo mr ms mt dd wi hi gt sp ta li sr co hb n   a1 s11.1 s11.2 _ hE hF)
