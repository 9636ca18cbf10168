def P_X11_byteAt (mw : MW) (mr : MR) (ms : Nat) (mt : A) (mu : A) (dd : A) (wi : A) (hi : A) (gt : A) (sp : A) (ta : A) (li : A) (sr : A) (co : A) (hb : aH) (n : Nat) (res : Out MO Int32) : Option Value → aH → Nat → Prop := fun r1 h2 n2 => ∃ (a : Int32) (s : MO), res = fok a s ∧ r1 = some (.int a) ∧ h2 = HM s mw mr ms mt mu dd wi hi gt sp ta li sr co hb ∧ n = n2
abbrev Q_X11_byteAt_37 (mw : MW) (mr : MR) (ms : Nat) (mt : A) (mu : A) (dd : A) (wi : A) (hi : A) (gt : A) (sp : A) (ta : A) (li : A) (sr : A) (co : A) (hb : aH) (n : Nat) (k : MO → Out MO Int32) : Prop := ∀ (mo : MO) (res : Out MO Int32), k mo = res → res ≠ fno → AW (fun _ _ => True) mX11_byteAt (rmD 1 0 0) 0 0 (P_X11_byteAt mw mr ms mt mu dd wi hi gt sp ta li sr co hb n res) (fun _ _ _ => False) 0 0 37 [] [] (HM mo mw mr ms mt mu dd wi hi gt sp ta li sr co hb) n
def F_X11_byteAt_37 (mw : MW) (mu : A)  (mo : MO) : Out MO Int32 := fok ((-1) : Int32) mo
set_option maxHeartbeats 1000000 in
set_option maxRecDepth 100000 in
theorem b_X11_byteAt_37 (mw : MW) (mr : MR) (ms : Nat) (mt : A) (mu : A) (dd : A) (wi : A) (hi : A) (gt : A) (sp : A) (ta : A) (li : A) (sr : A) (co : A) (hb : aH) (n : Nat)   : Q_X11_byteAt_37 mw mr ms mt mu dd wi hi gt sp ta li sr co hb n (F_X11_byteAt_37 mw mu) := by
  intro mo res hE hF
  unfold F_X11_byteAt_37 at hE
  refine aw_iconst (v := (-1)) dX11_byteAt_37 (by decide) ?_
  exact aw_iret dX11_byteAt_38 rfl (Nat.zero_le _) (Nat.zero_le _) (Nat.zero_le _) (Nat.zero_le _) ⟨_, _, hE.symm, rfl, rfl, rfl⟩
def F_X11_byteAt (a1 : Int32) (mo : MO) (mw : MW) (mu : A) : Out MO Int32 := if (mw_ho mw) = 0 then (F_X11_byteAt_37 mw mu ((mo_taped mo), 0, (mo_tf mo), (mo_t1 mo), (mo_t2 mo), (mo_t3 mo), (mo_fp mo))) else (if a1 < 0 then (F_X11_byteAt_37 mw mu ((mo_taped mo), 0, (mo_tf mo), (mo_t1 mo), (mo_t2 mo), (mo_t3 mo), (mo_fp mo))) else (if (mw_om mw) ≤ a1 then (F_X11_byteAt_37 mw mu ((mo_taped mo), 0, (mo_tf mo), (mo_t1 mo), (mo_t2 mo), (mo_t3 mo), (mo_fp mo))) else (if inb a1 65536 then (fok (((mu (Int32.toNatClampNeg a1)) &&& 255) : Int32) ((mo_taped mo), 0, (mo_tf mo), (mo_t1 mo), (mo_t2 mo), (mo_t3 mo), (mo_fp mo))) else fno)))
set_option maxHeartbeats 1000000 in
set_option maxRecDepth 100000 in
theorem kF_X11_byteAt (mo : MO) (mw : MW) (mr : MR) (ms : Nat) (mt : A) (mu : A) (dd : A) (wi : A) (hi : A) (gt : A) (sp : A) (ta : A) (li : A) (sr : A) (co : A) (hb : aH) (n : Nat)  (a1 : Int32) (hF : F_X11_byteAt a1 mo mw mu ≠ fno) : AM mX11_byteAt 1 [.ref 31, .int a1] (HM mo mw mr ms mt mu dd wi hi gt sp ta li sr co hb) n 0 0 0 0 (P_X11_byteAt mw mr ms mt mu dd wi hi gt sp ta li sr co hb n (F_X11_byteAt a1 mo mw mu)) (fun _ _ _ => False) := by
  generalize hE : F_X11_byteAt a1 mo mw mu = res at hF ⊢
  refine aw_of (by decide +kernel) rfl (Nat.le_of_ble_eq_true rfl) ?_
  unfold F_X11_byteAt at hE
  refine aw_aload_n dX11_byteAt_0 rfl ?_
  refine aw_iconst (v := 0) dX11_byteAt_1 (by decide) ?_
  refine aw_putf dX11_byteAt_2 ptX11_61_10 at_mod (Nat.le_of_ble_eq_true rfl) ⟨rfl, rfl⟩ ?_
  refine aw_eqh (h2 := HM ((mo_taped mo), 0, (mo_tf mo), (mo_t1 mo), (mo_t2 mo), (mo_t3 mo), (mo_fp mo)) mw mr ms mt mu dd wi hi gt sp ta li sr co hb) up_mod ?_
  refine aw_aload_n dX11_byteAt_5 rfl ?_
  refine aw_getf (v := .int (mw_ho mw)) dX11_byteAt_6 flX11_71_10 at_mod rfl ?_
  refine aw_if_eq (tgt := 37) dX11_byteAt_9 (by decide) (fun c9 => ?_) (fun c9 => ?_)
  · replace hE := fit hE c9
    exact aw_lv _ (fun _ h => absurd h List.not_mem_nil) (b_X11_byteAt_37 mw mr ms mt mu dd wi hi gt sp ta li sr co hb n   ((mo_taped mo), 0, (mo_tf mo), (mo_t1 mo), (mo_t2 mo), (mo_t3 mo), (mo_fp mo)) _ hE hF)
  · replace hE := fif hE c9
    refine aw_iload_n dX11_byteAt_12 rfl ?_
    refine aw_if_lt (tgt := 37) dX11_byteAt_13 (by decide) (fun c13 => ?_) (fun c13 => ?_)
    · replace hE := fit hE c13
      exact aw_lv _ (fun _ h => absurd h List.not_mem_nil) (b_X11_byteAt_37 mw mr ms mt mu dd wi hi gt sp ta li sr co hb n   ((mo_taped mo), 0, (mo_tf mo), (mo_t1 mo), (mo_t2 mo), (mo_t3 mo), (mo_fp mo)) _ hE hF)
    · replace hE := fif hE c13
      refine aw_iload_n dX11_byteAt_16 rfl ?_
      refine aw_aload_n dX11_byteAt_17 rfl ?_
      refine aw_getf (v := .int (mw_om mw)) dX11_byteAt_18 flX11_75_10 at_mod rfl ?_
      refine aw_icmp_ge (tgt := 37) dX11_byteAt_21 (by decide) (fun c21 => ?_) (fun c21 => ?_)
      · replace hE := fit hE c21
        exact aw_lv _ (fun _ h => absurd h List.not_mem_nil) (b_X11_byteAt_37 mw mr ms mt mu dd wi hi gt sp ta li sr co hb n   ((mo_taped mo), 0, (mo_tf mo), (mo_t1 mo), (mo_t2 mo), (mo_t3 mo), (mo_fp mo)) _ hE hF)
      · replace hE := fif hE c21
        refine aw_aload_n dX11_byteAt_24 rfl ?_
        refine aw_getf (v := .ref 33) dX11_byteAt_25 flX11_14_10 at_mod rfl ?_
        refine aw_iload_n dX11_byteAt_28 rfl ?_
        obtain ⟨g29, hE⟩ := fgd hE hF
        refine aw_bald (f := mu) dX11_byteAt_29 at_mout (vp_in_iff.mpr g29) ?_
        refine aw_sipush (v := 255) dX11_byteAt_30 (by decide) ?_
        refine aw_iand dX11_byteAt_33 ?_
        refine aw_goto (tgt := 38) dX11_byteAt_34 (by decide) ?_
        exact aw_iret dX11_byteAt_38 rfl (Nat.zero_le _) (Nat.zero_le _) (Nat.zero_le _) (Nat.zero_le _) ⟨_, _, hE.symm, rfl, rfl, rfl⟩
def P_X11_bytes (mw : MW) (mr : MR) (ms : Nat) (mt : A) (mu : A) (dd : A) (wi : A) (hi : A) (gt : A) (sp : A) (ta : A) (li : A) (sr : A) (co : A) (hb : aH) (n : Nat) (res : Out MO Int64) : Option Value → aH → Nat → Prop := fun r1 h2 n2 => ∃ (a : Int64) (s : MO), res = fok a s ∧ r1 = some (.long a) ∧ h2 = HM s mw mr ms mt mu dd wi hi gt sp ta li sr co hb ∧ n = n2
abbrev Q_X11_bytes_24 (mw : MW) (mr : MR) (ms : Nat) (mt : A) (mu : A) (dd : A) (wi : A) (hi : A) (gt : A) (sp : A) (ta : A) (li : A) (sr : A) (co : A) (hb : aH) (n : Nat) (k : MO → Out MO Int64) : Prop := ∀ (mo : MO) (res : Out MO Int64), k mo = res → res ≠ fno → AW (fun _ _ => True) mX11_bytes (rmD 1 0 0) 0 0 (P_X11_bytes mw mr ms mt mu dd wi hi gt sp ta li sr co hb n res) (fun _ _ _ => False) 0 0 24 [(0, .ref 31)] [] (HM mo mw mr ms mt mu dd wi hi gt sp ta li sr co hb) n
abbrev Q_X11_bytes_36 (mw : MW) (mr : MR) (ms : Nat) (mt : A) (mu : A) (dd : A) (wi : A) (hi : A) (gt : A) (sp : A) (ta : A) (li : A) (sr : A) (co : A) (hb : aH) (n : Nat) (k : Int32 → Int64 → Int32 → MO → Out MO Int64) : Prop := ∀ (v1 : Int32) (v2 : Int64) (v4 : Int32) (mo : MO) (res : Out MO Int64), k v1 v2 v4 mo = res → res ≠ fno → AW (fun _ _ => True) mX11_bytes (rmD 1 0 0) 0 0 (P_X11_bytes mw mr ms mt mu dd wi hi gt sp ta li sr co hb n res) (fun _ _ _ => False) 0 0 36 [(0, .ref 31), (1, .int v1), (2, .long v2), (4, .int v4)] [] (HM mo mw mr ms mt mu dd wi hi gt sp ta li sr co hb) n
abbrev Q_X11_bytes_75 (mw : MW) (mr : MR) (ms : Nat) (mt : A) (mu : A) (dd : A) (wi : A) (hi : A) (gt : A) (sp : A) (ta : A) (li : A) (sr : A) (co : A) (hb : aH) (n : Nat) (k : Int32 → Int32 → Int32 → Int64 → MO → Out MO Int64) : Prop := ∀ (v1 : Int32) (v4 : Int32) (t0 : Int32) (t1 : Int64) (mo : MO) (res : Out MO Int64), k v1 v4 t0 t1 mo = res → res ≠ fno → AW (fun _ _ => True) mX11_bytes (rmD 1 0 0) 0 0 (P_X11_bytes mw mr ms mt mu dd wi hi gt sp ta li sr co hb n res) (fun _ _ _ => False) 0 0 75 [(0, .ref 31), (1, .int v1), (4, .int v4)] [.int t0, .long t1] (HM mo mw mr ms mt mu dd wi hi gt sp ta li sr co hb) n
def F_X11_bytes_75 (mw : MW) (mu : A) (k36 : Int32 → Int64 → Int32 → MO → Out MO Int64) (v1 : Int32) (v4 : Int32) (t0 : Int32) (t1 : Int64) (mo : MO) : Out MO Int64 := k36 v1 (t1 ||| (t0).toInt64) (v4 + 1) mo
set_option maxHeartbeats 1000000 in
set_option maxRecDepth 100000 in
theorem b_X11_bytes_75 (mw : MW) (mr : MR) (ms : Nat) (mt : A) (mu : A) (dd : A) (wi : A) (hi : A) (gt : A) (sp : A) (ta : A) (li : A) (sr : A) (co : A) (hb : aH) (n : Nat)  (k36 : Int32 → Int64 → Int32 → MO → Out MO Int64) (hk36 : Q_X11_bytes_36 mw mr ms mt mu dd wi hi gt sp ta li sr co hb n k36) : Q_X11_bytes_75 mw mr ms mt mu dd wi hi gt sp ta li sr co hb n (F_X11_bytes_75 mw mu k36) := by
  intro v1 v4 t0 t1 mo res hE hF
  unfold F_X11_bytes_75 at hE
  refine aw_i2l dX11_bytes_75 ?_
  refine aw_lor dX11_bytes_76 ?_
  refine aw_lstore_n (lv2 := [(2, _), (0, _), (1, _), (4, _)]) dX11_bytes_77 (by decide) rfl ?_
  refine aw_iinc (v := (v4 + 1)) (lv2 := [(4, _), (2, _), (0, _), (1, _)]) dX11_bytes_78 rfl (incE (by decide)) (by decide) rfl ?_
  refine aw_goto (tgt := 36) dX11_bytes_81 (by decide) ?_
  exact aw_lv _ (List.forall_mem_cons.mpr ⟨rfl, (List.forall_mem_cons.mpr ⟨rfl, (List.forall_mem_cons.mpr ⟨rfl, (List.forall_mem_cons.mpr ⟨rfl, fun _ h => absurd h List.not_mem_nil⟩)⟩)⟩)⟩) (hk36 v1 (t1 ||| (t0).toInt64) (v4 + 1) mo _ hE hF)
def F_X11_bytes_36 (mw : MW) (mu : A) (k36 : Int32 → Int64 → Int32 → MO → Out MO Int64) (v1 : Int32) (v2 : Int64) (v4 : Int32) (mo : MO) : Out MO Int64 := if 8 ≤ v4 then (fok (v2 : Int64) mo) else (if (mw_om mw) ≤ (v1 + v4) then (F_X11_bytes_75 mw mu k36 v1 v4 (0 : Int32) (v2 <<< (((8 : Int32)).toInt64 &&& 63)) mo) else (if inb (v1 + v4) 65536 then (F_X11_bytes_75 mw mu k36 v1 v4 ((mu (Int32.toNatClampNeg (v1 + v4))) &&& 255) (v2 <<< (((8 : Int32)).toInt64 &&& 63)) mo) else fno))
set_option maxHeartbeats 1000000 in
set_option maxRecDepth 100000 in
theorem b_X11_bytes_36 (mw : MW) (mr : MR) (ms : Nat) (mt : A) (mu : A) (dd : A) (wi : A) (hi : A) (gt : A) (sp : A) (ta : A) (li : A) (sr : A) (co : A) (hb : aH) (n : Nat)  (k36 : Int32 → Int64 → Int32 → MO → Out MO Int64) (hk36 : Q_X11_bytes_36 mw mr ms mt mu dd wi hi gt sp ta li sr co hb n k36) : Q_X11_bytes_36 mw mr ms mt mu dd wi hi gt sp ta li sr co hb n (F_X11_bytes_36 mw mu k36) := by
  intro v1 v2 v4 mo res hE hF
  unfold F_X11_bytes_36 at hE
  refine aw_iload dX11_bytes_36 rfl ?_
  refine aw_bipush (v := 8) dX11_bytes_38 (by decide) ?_
  refine aw_icmp_ge (tgt := 84) dX11_bytes_40 (by decide) (fun c40 => ?_) (fun c40 => ?_)
  · replace hE := fit hE c40
    refine aw_lload_n dX11_bytes_84 rfl ?_
    exact aw_lret dX11_bytes_85 rfl (Nat.zero_le _) (Nat.zero_le _) (Nat.zero_le _) (Nat.zero_le _) ⟨_, _, hE.symm, rfl, rfl, rfl⟩
  · replace hE := fif hE c40
    refine aw_lload_n dX11_bytes_43 rfl ?_
    refine aw_bipush (v := 8) dX11_bytes_44 (by decide) ?_
    refine aw_lshl dX11_bytes_46 ?_
    refine aw_iload_n dX11_bytes_47 rfl ?_
    refine aw_iload dX11_bytes_48 rfl ?_
    refine aw_iadd dX11_bytes_50 ?_
    refine aw_aload_n dX11_bytes_51 rfl ?_
    refine aw_getf (v := .int (mw_om mw)) dX11_bytes_52 flX11_75_10 at_mod rfl ?_
    refine aw_icmp_ge (tgt := 74) dX11_bytes_55 (by decide) (fun c55 => ?_) (fun c55 => ?_)
    · replace hE := fit hE c55
      refine aw_iconst (v := 0) dX11_bytes_74 (by decide) ?_
      exact aw_lv _ (List.forall_mem_cons.mpr ⟨rfl, (List.forall_mem_cons.mpr ⟨rfl, (List.forall_mem_cons.mpr ⟨rfl, fun _ h => absurd h List.not_mem_nil⟩)⟩)⟩) (b_X11_bytes_75 mw mr ms mt mu dd wi hi gt sp ta li sr co hb n  k36 hk36 v1 v4 (0 : Int32) (v2 <<< (((8 : Int32)).toInt64 &&& 63)) mo _ hE hF)
    · replace hE := fif hE c55
      refine aw_aload_n dX11_bytes_58 rfl ?_
      refine aw_getf (v := .ref 33) dX11_bytes_59 flX11_14_10 at_mod rfl ?_
      refine aw_iload_n dX11_bytes_62 rfl ?_
      refine aw_iload dX11_bytes_63 rfl ?_
      refine aw_iadd dX11_bytes_65 ?_
      obtain ⟨g66, hE⟩ := fgd hE hF
      refine aw_bald (f := mu) dX11_bytes_66 at_mout (vp_in_iff.mpr g66) ?_
      refine aw_sipush (v := 255) dX11_bytes_67 (by decide) ?_
      refine aw_iand dX11_bytes_70 ?_
      refine aw_goto (tgt := 75) dX11_bytes_71 (by decide) ?_
      exact aw_lv _ (List.forall_mem_cons.mpr ⟨rfl, (List.forall_mem_cons.mpr ⟨rfl, (List.forall_mem_cons.mpr ⟨rfl, fun _ h => absurd h List.not_mem_nil⟩)⟩)⟩) (b_X11_bytes_75 mw mr ms mt mu dd wi hi gt sp ta li sr co hb n  k36 hk36 v1 v4 ((mu (Int32.toNatClampNeg (v1 + v4))) &&& 255) (v2 <<< (((8 : Int32)).toInt64 &&& 63)) mo _ hE hF)
def F_X11_bytes_24 (mw : MW) (mu : A)  (mo : MO) : Out MO Int64 := fok (0 : Int64) ((mo_taped mo), 1, (mo_tf mo), (mo_t1 mo), (mo_t2 mo), (mo_t3 mo), (mo_fp mo))
set_option maxHeartbeats 1000000 in
set_option maxRecDepth 100000 in
theorem b_X11_bytes_24 (mw : MW) (mr : MR) (ms : Nat) (mt : A) (mu : A) (dd : A) (wi : A) (hi : A) (gt : A) (sp : A) (ta : A) (li : A) (sr : A) (co : A) (hb : aH) (n : Nat)   : Q_X11_bytes_24 mw mr ms mt mu dd wi hi gt sp ta li sr co hb n (F_X11_bytes_24 mw mu) := by
  intro mo res hE hF
  unfold F_X11_bytes_24 at hE
  refine aw_aload_n dX11_bytes_24 rfl ?_
  refine aw_iconst (v := 1) dX11_bytes_25 (by decide) ?_
  refine aw_putf dX11_bytes_26 ptX11_61_10 at_mod (Nat.le_of_ble_eq_true rfl) ⟨rfl, rfl⟩ ?_
  refine aw_eqh (h2 := HM ((mo_taped mo), 1, (mo_tf mo), (mo_t1 mo), (mo_t2 mo), (mo_t3 mo), (mo_fp mo)) mw mr ms mt mu dd wi hi gt sp ta li sr co hb) up_mod ?_
  refine aw_lconst (v := 0) dX11_bytes_29 (by decide) ?_
  exact aw_lret dX11_bytes_30 rfl (Nat.zero_le _) (Nat.zero_le _) (Nat.zero_le _) (Nat.zero_le _) ⟨_, _, hE.symm, rfl, rfl, rfl⟩
def F_X11_bytes (a1 : Int32) (mo : MO) (mw : MW) (mu : A) : Out MO Int64 := if (mw_ho mw) = 0 then (F_X11_bytes_24 mw mu ((mo_taped mo), 0, (mo_tf mo), (mo_t1 mo), (mo_t2 mo), (mo_t3 mo), (mo_fp mo))) else (if a1 < 0 then (F_X11_bytes_24 mw mu ((mo_taped mo), 0, (mo_tf mo), (mo_t1 mo), (mo_t2 mo), (mo_t3 mo), (mo_fp mo))) else (if a1 < (mw_om mw) then (lp (fun _ _ _ _ => fno) (F_X11_bytes_36 mw mu) FU a1 (0 : Int64) (0 : Int32) ((mo_taped mo), 0, (mo_tf mo), (mo_t1 mo), (mo_t2 mo), (mo_t3 mo), (mo_fp mo))) else (F_X11_bytes_24 mw mu ((mo_taped mo), 0, (mo_tf mo), (mo_t1 mo), (mo_t2 mo), (mo_t3 mo), (mo_fp mo)))))
set_option maxHeartbeats 1000000 in
set_option maxRecDepth 100000 in
theorem kF_X11_bytes (mo : MO) (mw : MW) (mr : MR) (ms : Nat) (mt : A) (mu : A) (dd : A) (wi : A) (hi : A) (gt : A) (sp : A) (ta : A) (li : A) (sr : A) (co : A) (hb : aH) (n : Nat)  (a1 : Int32) (hF : F_X11_bytes a1 mo mw mu ≠ fno) : AM mX11_bytes 1 [.ref 31, .int a1] (HM mo mw mr ms mt mu dd wi hi gt sp ta li sr co hb) n 0 0 0 0 (P_X11_bytes mw mr ms mt mu dd wi hi gt sp ta li sr co hb n (F_X11_bytes a1 mo mw mu)) (fun _ _ _ => False) := by
  generalize hE : F_X11_bytes a1 mo mw mu = res at hF ⊢
  refine aw_of (by decide +kernel) rfl (Nat.le_of_ble_eq_true rfl) ?_
  unfold F_X11_bytes at hE
  refine aw_aload_n dX11_bytes_0 rfl ?_
  refine aw_iconst (v := 0) dX11_bytes_1 (by decide) ?_
  refine aw_putf dX11_bytes_2 ptX11_61_10 at_mod (Nat.le_of_ble_eq_true rfl) ⟨rfl, rfl⟩ ?_
  refine aw_eqh (h2 := HM ((mo_taped mo), 0, (mo_tf mo), (mo_t1 mo), (mo_t2 mo), (mo_t3 mo), (mo_fp mo)) mw mr ms mt mu dd wi hi gt sp ta li sr co hb) up_mod ?_
  refine aw_aload_n dX11_bytes_5 rfl ?_
  refine aw_getf (v := .int (mw_ho mw)) dX11_bytes_6 flX11_71_10 at_mod rfl ?_
  refine aw_if_eq (tgt := 24) dX11_bytes_9 (by decide) (fun c9 => ?_) (fun c9 => ?_)
  · replace hE := fit hE c9
    exact aw_lv _ (List.forall_mem_cons.mpr ⟨rfl, fun _ h => absurd h List.not_mem_nil⟩) (b_X11_bytes_24 mw mr ms mt mu dd wi hi gt sp ta li sr co hb n   ((mo_taped mo), 0, (mo_tf mo), (mo_t1 mo), (mo_t2 mo), (mo_t3 mo), (mo_fp mo)) _ hE hF)
  · replace hE := fif hE c9
    refine aw_iload_n dX11_bytes_12 rfl ?_
    refine aw_if_lt (tgt := 24) dX11_bytes_13 (by decide) (fun c13 => ?_) (fun c13 => ?_)
    · replace hE := fit hE c13
      exact aw_lv _ (List.forall_mem_cons.mpr ⟨rfl, fun _ h => absurd h List.not_mem_nil⟩) (b_X11_bytes_24 mw mr ms mt mu dd wi hi gt sp ta li sr co hb n   ((mo_taped mo), 0, (mo_tf mo), (mo_t1 mo), (mo_t2 mo), (mo_t3 mo), (mo_fp mo)) _ hE hF)
    · replace hE := fif hE c13
      refine aw_iload_n dX11_bytes_16 rfl ?_
      refine aw_aload_n dX11_bytes_17 rfl ?_
      refine aw_getf (v := .int (mw_om mw)) dX11_bytes_18 flX11_75_10 at_mod rfl ?_
      refine aw_icmp_lt (tgt := 31) dX11_bytes_21 (by decide) (fun c21 => ?_) (fun c21 => ?_)
      · replace hE := fit hE c21
        refine aw_lconst (v := 0) dX11_bytes_31 (by decide) ?_
        refine aw_lstore_n (lv2 := [(2, _), (0, _), (1, _)]) dX11_bytes_32 (by decide) rfl ?_
        refine aw_iconst (v := 0) dX11_bytes_33 (by decide) ?_
        refine aw_istore (lv2 := [(4, _), (2, _), (0, _), (1, _)]) dX11_bytes_34 (by decide) rfl ?_
        exact aw_lv _ (List.forall_mem_cons.mpr ⟨rfl, (List.forall_mem_cons.mpr ⟨rfl, (List.forall_mem_cons.mpr ⟨rfl, (List.forall_mem_cons.mpr ⟨rfl, fun _ h => absurd h List.not_mem_nil⟩)⟩)⟩)⟩) (lp_ind (Q_X11_bytes_36 mw mr ms mt mu dd wi hi gt sp ta li sr co hb n) (fun _ _ _ _ res hq hF => (hF hq.symm).elim) (fun k hk => b_X11_bytes_36 mw mr ms mt mu dd wi hi gt sp ta li sr co hb n   k hk) FU a1 (0 : Int64) (0 : Int32) ((mo_taped mo), 0, (mo_tf mo), (mo_t1 mo), (mo_t2 mo), (mo_t3 mo), (mo_fp mo)) _ hE hF)
      · replace hE := fif hE c21
        exact aw_lv _ (List.forall_mem_cons.mpr ⟨rfl, fun _ h => absurd h List.not_mem_nil⟩) (b_X11_bytes_24 mw mr ms mt mu dd wi hi gt sp ta li sr co hb n   ((mo_taped mo), 0, (mo_tf mo), (mo_t1 mo), (mo_t2 mo), (mo_t3 mo), (mo_fp mo)) _ hE hF)
def P_X11_make (mw : MW) (mr : MR) (ms : Nat) (mt : A) (mu : A) (gt : A) (sp : A) (ta : A) (li : A) (sr : A) (co : A) (hb : aH) (n : Nat) (res : Out (MO × A × A × A) Int32) : Option Value → aH → Nat → Prop := fun r1 h2 n2 => ∃ (a : Int32) (s : (MO × A × A × A)), res = fok a s ∧ r1 = some (.int a) ∧ h2 = HM s.1 mw mr ms mt mu s.2.1 s.2.2.1 s.2.2.2 gt sp ta li sr co hb ∧ n = n2
abbrev Q_X11_make_34 (mw : MW) (mr : MR) (ms : Nat) (mt : A) (mu : A) (gt : A) (sp : A) (ta : A) (li : A) (sr : A) (co : A) (hb : aH) (n : Nat) (k : MO → A → A → A → Out (MO × A × A × A) Int32) : Prop := ∀ (mo : MO) (dd : A) (wi : A) (hi : A) (res : Out (MO × A × A × A) Int32), k mo dd wi hi = res → res ≠ fno → AW (fun _ _ => True) mX11_make (rmD 2 0 0) 0 0 (P_X11_make mw mr ms mt mu gt sp ta li sr co hb n res) (fun _ _ _ => False) 0 0 34 [] [] (HM mo mw mr ms mt mu dd wi hi gt sp ta li sr co hb) n
abbrev Q_X11_make_53 (mw : MW) (mr : MR) (ms : Nat) (mt : A) (mu : A) (gt : A) (sp : A) (ta : A) (li : A) (sr : A) (co : A) (hb : aH) (n : Nat) (k : Int32 → Int32 → Int32 → Int32 → Int32 → MO → A → A → A → Out (MO × A × A × A) Int32) : Prop := ∀ (v1 : Int32) (v2 : Int32) (v3 : Int32) (v4 : Int32) (v5 : Int32) (mo : MO) (dd : A) (wi : A) (hi : A) (res : Out (MO × A × A × A) Int32), k v1 v2 v3 v4 v5 mo dd wi hi = res → res ≠ fno → AW (fun _ _ => True) mX11_make (rmD 2 0 0) 0 0 (P_X11_make mw mr ms mt mu gt sp ta li sr co hb n res) (fun _ _ _ => False) 0 0 53 [(0, .ref 31), (1, .int v1), (2, .int v2), (3, .int v3), (4, .int v4), (5, .int v5)] [] (HM mo mw mr ms mt mu dd wi hi gt sp ta li sr co hb) n
def F_X11_make_53  (k53 : Int32 → Int32 → Int32 → Int32 → Int32 → MO → A → A → A → Out (MO × A × A × A) Int32) (v1 : Int32) (v2 : Int32) (v3 : Int32) (v4 : Int32) (v5 : Int32) (mo : MO) (dd : A) (wi : A) (hi : A) : Out (MO × A × A × A) Int32 := if (v2 * v3) ≤ v5 then (fok (1 : Int32) (mo, dd, wi, hi)) else (if inb ((4096 * v1) + v5) 16384 then (k53 v1 v2 v3 v4 (v5 + 1) mo (upd dd (Int32.toNatClampNeg ((4096 * v1) + v5)) v4) wi hi) else fno)
set_option maxHeartbeats 1000000 in
set_option maxRecDepth 100000 in
theorem b_X11_make_53 (mw : MW) (mr : MR) (ms : Nat) (mt : A) (mu : A) (gt : A) (sp : A) (ta : A) (li : A) (sr : A) (co : A) (hb : aH) (n : Nat)  (k53 : Int32 → Int32 → Int32 → Int32 → Int32 → MO → A → A → A → Out (MO × A × A × A) Int32) (hk53 : Q_X11_make_53 mw mr ms mt mu gt sp ta li sr co hb n k53) : Q_X11_make_53 mw mr ms mt mu gt sp ta li sr co hb n (F_X11_make_53 k53) := by
  intro v1 v2 v3 v4 v5 mo dd wi hi res hE hF
  unfold F_X11_make_53 at hE
  refine aw_iload dX11_make_53 rfl ?_
  refine aw_iload_n dX11_make_55 rfl ?_
  refine aw_iload_n dX11_make_56 rfl ?_
  refine aw_imul dX11_make_57 ?_
  refine aw_icmp_ge (tgt := 82) dX11_make_58 (by decide) (fun c58 => ?_) (fun c58 => ?_)
  · replace hE := fit hE c58
    refine aw_iconst (v := 1) dX11_make_82 (by decide) ?_
    exact aw_zret dX11_make_83 rfl (narB (by decide)) (Nat.zero_le _) (Nat.zero_le _) (Nat.zero_le _) (Nat.zero_le _) ⟨_, _, hE.symm, rfl, rfl, rfl⟩
  · replace hE := fif hE c58
    refine aw_aload_n dX11_make_61 rfl ?_
    refine aw_getf (v := .ref 34) dX11_make_62 flX11_17_10 at_mod rfl ?_
    refine aw_sipush (v := 4096) dX11_make_65 (by decide) ?_
    refine aw_iload_n dX11_make_68 rfl ?_
    refine aw_imul dX11_make_69 ?_
    refine aw_iload dX11_make_70 rfl ?_
    refine aw_iadd dX11_make_72 ?_
    refine aw_iload dX11_make_73 rfl ?_
    obtain ⟨g75, hE⟩ := fgd hE hF
    refine aw_iast (f := dd) dX11_make_75 at_mdots (vp_in_iff.mpr g75) ?_
    refine aw_eqh (h2 := HM mo mw mr ms mt mu (upd dd (Int32.toNatClampNeg ((4096 * v1) + v5)) v4) wi hi gt sp ta li sr co hb) up_mdots ?_
    refine aw_iinc (v := (v5 + 1)) (lv2 := [(5, _), (0, _), (1, _), (2, _), (3, _), (4, _)]) dX11_make_76 rfl (incE (by decide)) (by decide) rfl ?_
    refine aw_goto (tgt := 53) dX11_make_79 (by decide) ?_
    exact aw_lv _ (List.forall_mem_cons.mpr ⟨rfl, (List.forall_mem_cons.mpr ⟨rfl, (List.forall_mem_cons.mpr ⟨rfl, (List.forall_mem_cons.mpr ⟨rfl, (List.forall_mem_cons.mpr ⟨rfl, (List.forall_mem_cons.mpr ⟨rfl, fun _ h => absurd h List.not_mem_nil⟩)⟩)⟩)⟩)⟩)⟩) (hk53 v1 v2 v3 v4 (v5 + 1) mo (upd dd (Int32.toNatClampNeg ((4096 * v1) + v5)) v4) wi hi _ hE hF)
def F_X11_make_34   (mo : MO) (dd : A) (wi : A) (hi : A) : Out (MO × A × A × A) Int32 := fok (0 : Int32) (mo, dd, wi, hi)
set_option maxHeartbeats 1000000 in
set_option maxRecDepth 100000 in
theorem b_X11_make_34 (mw : MW) (mr : MR) (ms : Nat) (mt : A) (mu : A) (gt : A) (sp : A) (ta : A) (li : A) (sr : A) (co : A) (hb : aH) (n : Nat)   : Q_X11_make_34 mw mr ms mt mu gt sp ta li sr co hb n (F_X11_make_34 ) := by
  intro mo dd wi hi res hE hF
  unfold F_X11_make_34 at hE
  refine aw_iconst (v := 0) dX11_make_34 (by decide) ?_
  exact aw_zret dX11_make_35 rfl (narB (by decide)) (Nat.zero_le _) (Nat.zero_le _) (Nat.zero_le _) (Nat.zero_le _) ⟨_, _, hE.symm, rfl, rfl, rfl⟩
def F_X11_make (a1 : Int32) (a2 : Int32) (a3 : Int32) (a4 : Int32) (mo : MO) (dd : A) (wi : A) (hi : A) : Out (MO × A × A × A) Int32 := if (F_X11_isShelf a1) = 0 then (F_X11_make_34  ((mo_taped mo), 0, (mo_tf mo), (mo_t1 mo), (mo_t2 mo), (mo_t3 mo), (mo_fp mo)) dd wi hi) else (if a2 < 1 then (F_X11_make_34  ((mo_taped mo), 0, (mo_tf mo), (mo_t1 mo), (mo_t2 mo), (mo_t3 mo), (mo_fp mo)) dd wi hi) else (if a3 < 1 then (F_X11_make_34  ((mo_taped mo), 0, (mo_tf mo), (mo_t1 mo), (mo_t2 mo), (mo_t3 mo), (mo_fp mo)) dd wi hi) else (if (lg_cmp ((a2).toInt64 * (a3).toInt64) 4096) ≤ 0 then (if inb a1 4 then (if inb a1 4 then (lp (fun _ _ _ _ _ _ _ _ _ => fno) (F_X11_make_53 ) FU a1 a2 a3 a4 (0 : Int32) ((mo_taped mo), 0, (mo_tf mo), (mo_t1 mo), (mo_t2 mo), (mo_t3 mo), (mo_fp mo)) dd (upd wi (Int32.toNatClampNeg a1) a2) (upd hi (Int32.toNatClampNeg a1) a3)) else fno) else fno) else (F_X11_make_34  ((mo_taped mo), 0, (mo_tf mo), (mo_t1 mo), (mo_t2 mo), (mo_t3 mo), (mo_fp mo)) dd wi hi))))
set_option maxHeartbeats 1000000 in
set_option maxRecDepth 100000 in
theorem kF_X11_make (mo : MO) (mw : MW) (mr : MR) (ms : Nat) (mt : A) (mu : A) (dd : A) (wi : A) (hi : A) (gt : A) (sp : A) (ta : A) (li : A) (sr : A) (co : A) (hb : aH) (n : Nat)  (a1 : Int32) (a2 : Int32) (a3 : Int32) (a4 : Int32) (hF : F_X11_make a1 a2 a3 a4 mo dd wi hi ≠ fno) : AM mX11_make 2 [.ref 31, .int a1, .int a2, .int a3, .int a4] (HM mo mw mr ms mt mu dd wi hi gt sp ta li sr co hb) n 0 0 0 0 (P_X11_make mw mr ms mt mu gt sp ta li sr co hb n (F_X11_make a1 a2 a3 a4 mo dd wi hi)) (fun _ _ _ => False) := by
  generalize hE : F_X11_make a1 a2 a3 a4 mo dd wi hi = res at hF ⊢
  refine aw_of (by decide +kernel) rfl (Nat.le_of_ble_eq_true rfl) ?_
  unfold F_X11_make at hE
  refine aw_aload_n dX11_make_0 rfl ?_
  refine aw_iconst (v := 0) dX11_make_1 (by decide) ?_
  refine aw_putf dX11_make_2 ptX11_61_10 at_mod (Nat.le_of_ble_eq_true rfl) ⟨rfl, rfl⟩ ?_
  refine aw_eqh (h2 := HM ((mo_taped mo), 0, (mo_tf mo), (mo_t1 mo), (mo_t2 mo), (mo_t3 mo), (mo_fp mo)) mw mr ms mt mu dd wi hi gt sp ta li sr co hb) up_mod ?_
  refine aw_iload_n dX11_make_5 rfl ?_
  refine aw_callS dX11_make_6  csX11_245 rfl (kF_X11_isShelf _ _ a1) rfl (Nat.le_of_ble_eq_true rfl) (by decide) (by decide) (by decide) (by decide) (fun _ _ _ hf => False.elim hf) (fun r6 h6 n6 hp6 => ?_)
  obtain ⟨rfl, rfl, rfl⟩ := hp6
  refine aw_if_eq (tgt := 34) dX11_make_9 (by decide) (fun c9 => ?_) (fun c9 => ?_)
  · replace hE := fit hE c9
    exact aw_lv _ (fun _ h => absurd h List.not_mem_nil) (b_X11_make_34 mw mr ms mt mu gt sp ta li sr co hb n   ((mo_taped mo), 0, (mo_tf mo), (mo_t1 mo), (mo_t2 mo), (mo_t3 mo), (mo_fp mo)) dd wi hi _ hE hF)
  · replace hE := fif hE c9
    refine aw_iload_n dX11_make_12 rfl ?_
    refine aw_iconst (v := 1) dX11_make_13 (by decide) ?_
    refine aw_icmp_lt (tgt := 34) dX11_make_14 (by decide) (fun c14 => ?_) (fun c14 => ?_)
    · replace hE := fit hE c14
      exact aw_lv _ (fun _ h => absurd h List.not_mem_nil) (b_X11_make_34 mw mr ms mt mu gt sp ta li sr co hb n   ((mo_taped mo), 0, (mo_tf mo), (mo_t1 mo), (mo_t2 mo), (mo_t3 mo), (mo_fp mo)) dd wi hi _ hE hF)
    · replace hE := fif hE c14
      refine aw_iload_n dX11_make_17 rfl ?_
      refine aw_iconst (v := 1) dX11_make_18 (by decide) ?_
      refine aw_icmp_lt (tgt := 34) dX11_make_19 (by decide) (fun c19 => ?_) (fun c19 => ?_)
      · replace hE := fit hE c19
        exact aw_lv _ (fun _ h => absurd h List.not_mem_nil) (b_X11_make_34 mw mr ms mt mu gt sp ta li sr co hb n   ((mo_taped mo), 0, (mo_tf mo), (mo_t1 mo), (mo_t2 mo), (mo_t3 mo), (mo_fp mo)) dd wi hi _ hE hF)
      · replace hE := fif hE c19
        refine aw_iload_n dX11_make_22 rfl ?_
        refine aw_i2l dX11_make_23 ?_
        refine aw_iload_n dX11_make_24 rfl ?_
        refine aw_i2l dX11_make_25 ?_
        refine aw_lmul dX11_make_26 ?_
        refine aw_ldc2 dX11_make_27 kcX11_107 ?_
        refine aw_lcmp dX11_make_30 ?_
        refine aw_if_le (tgt := 36) dX11_make_31 (by decide) (fun c31 => ?_) (fun c31 => ?_)
        · replace hE := fit hE c31
          refine aw_aload_n dX11_make_36 rfl ?_
          refine aw_getf (v := .ref 35) dX11_make_37 flX11_21_10 at_mod rfl ?_
          refine aw_iload_n dX11_make_40 rfl ?_
          refine aw_iload_n dX11_make_41 rfl ?_
          obtain ⟨g42, hE⟩ := fgd hE hF
          refine aw_iast (f := wi) dX11_make_42 at_mwide (vp_in_iff.mpr g42) ?_
          refine aw_eqh (h2 := HM ((mo_taped mo), 0, (mo_tf mo), (mo_t1 mo), (mo_t2 mo), (mo_t3 mo), (mo_fp mo)) mw mr ms mt mu dd (upd wi (Int32.toNatClampNeg a1) a2) hi gt sp ta li sr co hb) up_mwide ?_
          refine aw_aload_n dX11_make_43 rfl ?_
          refine aw_getf (v := .ref 36) dX11_make_44 flX11_24_10 at_mod rfl ?_
          refine aw_iload_n dX11_make_47 rfl ?_
          refine aw_iload_n dX11_make_48 rfl ?_
          obtain ⟨g49, hE⟩ := fgd hE hF
          refine aw_iast (f := hi) dX11_make_49 at_mhigh (vp_in_iff.mpr g49) ?_
          refine aw_eqh (h2 := HM ((mo_taped mo), 0, (mo_tf mo), (mo_t1 mo), (mo_t2 mo), (mo_t3 mo), (mo_fp mo)) mw mr ms mt mu dd (upd wi (Int32.toNatClampNeg a1) a2) (upd hi (Int32.toNatClampNeg a1) a3) gt sp ta li sr co hb) up_mhigh ?_
          refine aw_iconst (v := 0) dX11_make_50 (by decide) ?_
          refine aw_istore (lv2 := [(5, _), (0, _), (1, _), (2, _), (3, _), (4, _)]) dX11_make_51 (by decide) rfl ?_
          exact aw_lv _ (List.forall_mem_cons.mpr ⟨rfl, (List.forall_mem_cons.mpr ⟨rfl, (List.forall_mem_cons.mpr ⟨rfl, (List.forall_mem_cons.mpr ⟨rfl, (List.forall_mem_cons.mpr ⟨rfl, (List.forall_mem_cons.mpr ⟨rfl, fun _ h => absurd h List.not_mem_nil⟩)⟩)⟩)⟩)⟩)⟩) (lp_ind (Q_X11_make_53 mw mr ms mt mu gt sp ta li sr co hb n) (fun _ _ _ _ _ _ _ _ _ res hq hF => (hF hq.symm).elim) (fun k hk => b_X11_make_53 mw mr ms mt mu gt sp ta li sr co hb n   k hk) FU a1 a2 a3 a4 (0 : Int32) ((mo_taped mo), 0, (mo_tf mo), (mo_t1 mo), (mo_t2 mo), (mo_t3 mo), (mo_fp mo)) dd (upd wi (Int32.toNatClampNeg a1) a2) (upd hi (Int32.toNatClampNeg a1) a3) _ hE hF)
        · replace hE := fif hE c31
          exact aw_lv _ (fun _ h => absurd h List.not_mem_nil) (b_X11_make_34 mw mr ms mt mu gt sp ta li sr co hb n   ((mo_taped mo), 0, (mo_tf mo), (mo_t1 mo), (mo_t2 mo), (mo_t3 mo), (mo_fp mo)) dd wi hi _ hE hF)
def P_X11_pixelAt (mw : MW) (mr : MR) (ms : Nat) (mt : A) (mu : A) (dd : A) (wi : A) (hi : A) (gt : A) (sp : A) (ta : A) (li : A) (sr : A) (co : A) (hb : aH) (n : Nat) (res : Out MO Int32) : Option Value → aH → Nat → Prop := fun r1 h2 n2 => ∃ (a : Int32) (s : MO), res = fok a s ∧ r1 = some (.int a) ∧ h2 = HM s mw mr ms mt mu dd wi hi gt sp ta li sr co hb ∧ n = n2
abbrev Q_X11_pixelAt_16 (mw : MW) (mr : MR) (ms : Nat) (mt : A) (mu : A) (dd : A) (wi : A) (hi : A) (gt : A) (sp : A) (ta : A) (li : A) (sr : A) (co : A) (hb : aH) (n : Nat) (k : MO → Out MO Int32) : Prop := ∀ (mo : MO) (res : Out MO Int32), k mo = res → res ≠ fno → AW (fun _ _ => True) mX11_pixelAt (rmD 2 0 0) 0 0 (P_X11_pixelAt mw mr ms mt mu dd wi hi gt sp ta li sr co hb n res) (fun _ _ _ => False) 0 0 16 [(0, .ref 31)] [] (HM mo mw mr ms mt mu dd wi hi gt sp ta li sr co hb) n
abbrev Q_X11_pixelAt_51 (mw : MW) (mr : MR) (ms : Nat) (mt : A) (mu : A) (dd : A) (wi : A) (hi : A) (gt : A) (sp : A) (ta : A) (li : A) (sr : A) (co : A) (hb : aH) (n : Nat) (k : MO → Out MO Int32) : Prop := ∀ (mo : MO) (res : Out MO Int32), k mo = res → res ≠ fno → AW (fun _ _ => True) mX11_pixelAt (rmD 2 0 0) 0 0 (P_X11_pixelAt mw mr ms mt mu dd wi hi gt sp ta li sr co hb n res) (fun _ _ _ => False) 0 0 51 [(0, .ref 31)] [] (HM mo mw mr ms mt mu dd wi hi gt sp ta li sr co hb) n
def F_X11_pixelAt_51 (wi : A) (hi : A)  (mo : MO) : Out MO Int32 := fok ((-1) : Int32) ((mo_taped mo), 2, (mo_tf mo), (mo_t1 mo), (mo_t2 mo), (mo_t3 mo), (mo_fp mo))
set_option maxHeartbeats 1000000 in
set_option maxRecDepth 100000 in
theorem b_X11_pixelAt_51 (mw : MW) (mr : MR) (ms : Nat) (mt : A) (mu : A) (dd : A) (wi : A) (hi : A) (gt : A) (sp : A) (ta : A) (li : A) (sr : A) (co : A) (hb : aH) (n : Nat)   : Q_X11_pixelAt_51 mw mr ms mt mu dd wi hi gt sp ta li sr co hb n (F_X11_pixelAt_51 wi hi) := by
  intro mo res hE hF
  unfold F_X11_pixelAt_51 at hE
  refine aw_aload_n dX11_pixelAt_51 rfl ?_
  refine aw_iconst (v := 2) dX11_pixelAt_52 (by decide) ?_
  refine aw_putf dX11_pixelAt_53 ptX11_61_10 at_mod (Nat.le_of_ble_eq_true rfl) ⟨rfl, rfl⟩ ?_
  refine aw_eqh (h2 := HM ((mo_taped mo), 2, (mo_tf mo), (mo_t1 mo), (mo_t2 mo), (mo_t3 mo), (mo_fp mo)) mw mr ms mt mu dd wi hi gt sp ta li sr co hb) up_mod ?_
  refine aw_iconst (v := (-1)) dX11_pixelAt_56 (by decide) ?_
  exact aw_iret dX11_pixelAt_57 rfl (Nat.zero_le _) (Nat.zero_le _) (Nat.zero_le _) (Nat.zero_le _) ⟨_, _, hE.symm, rfl, rfl, rfl⟩
def F_X11_pixelAt_16 (wi : A) (hi : A)  (mo : MO) : Out MO Int32 := fok ((-1) : Int32) ((mo_taped mo), 1, (mo_tf mo), (mo_t1 mo), (mo_t2 mo), (mo_t3 mo), (mo_fp mo))
set_option maxHeartbeats 1000000 in
set_option maxRecDepth 100000 in
theorem b_X11_pixelAt_16 (mw : MW) (mr : MR) (ms : Nat) (mt : A) (mu : A) (dd : A) (wi : A) (hi : A) (gt : A) (sp : A) (ta : A) (li : A) (sr : A) (co : A) (hb : aH) (n : Nat)   : Q_X11_pixelAt_16 mw mr ms mt mu dd wi hi gt sp ta li sr co hb n (F_X11_pixelAt_16 wi hi) := by
  intro mo res hE hF
  unfold F_X11_pixelAt_16 at hE
  refine aw_aload_n dX11_pixelAt_16 rfl ?_
  refine aw_iconst (v := 1) dX11_pixelAt_17 (by decide) ?_
  refine aw_putf dX11_pixelAt_18 ptX11_61_10 at_mod (Nat.le_of_ble_eq_true rfl) ⟨rfl, rfl⟩ ?_
  refine aw_eqh (h2 := HM ((mo_taped mo), 1, (mo_tf mo), (mo_t1 mo), (mo_t2 mo), (mo_t3 mo), (mo_fp mo)) mw mr ms mt mu dd wi hi gt sp ta li sr co hb) up_mod ?_
  refine aw_iconst (v := (-1)) dX11_pixelAt_21 (by decide) ?_
  exact aw_iret dX11_pixelAt_22 rfl (Nat.zero_le _) (Nat.zero_le _) (Nat.zero_le _) (Nat.zero_le _) ⟨_, _, hE.symm, rfl, rfl, rfl⟩
def F_X11_pixelAt (a1 : Int32) (a2 : Int32) (a3 : Int32) (mo : MO) (wi : A) (hi : A) : Out MO Int32 := if (F_X11_isShelf a1) = 0 then (F_X11_pixelAt_16 wi hi mo) else (if inb a1 4 then (if (wi (Int32.toNatClampNeg a1)) = 0 then (F_X11_pixelAt_16 wi hi mo) else (if a2 < 0 then (F_X11_pixelAt_51 wi hi mo) else (if a3 < 0 then (F_X11_pixelAt_51 wi hi mo) else (if inb a1 4 then (if (wi (Int32.toNatClampNeg a1)) ≤ a2 then (F_X11_pixelAt_51 wi hi mo) else (if inb a1 4 then (if a3 < (hi (Int32.toNatClampNeg a1)) then (if inb a1 4 then (fok ((((4096 * a1) + ((wi (Int32.toNatClampNeg a1)) * a3)) + a2) : Int32) mo) else fno) else (F_X11_pixelAt_51 wi hi mo)) else fno)) else fno)))) else fno)
set_option maxHeartbeats 1000000 in
set_option maxRecDepth 100000 in
theorem kF_X11_pixelAt (mo : MO) (mw : MW) (mr : MR) (ms : Nat) (mt : A) (mu : A) (dd : A) (wi : A) (hi : A) (gt : A) (sp : A) (ta : A) (li : A) (sr : A) (co : A) (hb : aH) (n : Nat)  (a1 : Int32) (a2 : Int32) (a3 : Int32) (hF : F_X11_pixelAt a1 a2 a3 mo wi hi ≠ fno) : AM mX11_pixelAt 2 [.ref 31, .int a1, .int a2, .int a3] (HM mo mw mr ms mt mu dd wi hi gt sp ta li sr co hb) n 0 0 0 0 (P_X11_pixelAt mw mr ms mt mu dd wi hi gt sp ta li sr co hb n (F_X11_pixelAt a1 a2 a3 mo wi hi)) (fun _ _ _ => False) := by
  generalize hE : F_X11_pixelAt a1 a2 a3 mo wi hi = res at hF ⊢
  refine aw_of (by decide +kernel) rfl (Nat.le_of_ble_eq_true rfl) ?_
  unfold F_X11_pixelAt at hE
  refine aw_iload_n dX11_pixelAt_0 rfl ?_
  refine aw_callS dX11_pixelAt_1  csX11_245 rfl (kF_X11_isShelf _ _ a1) rfl (Nat.le_of_ble_eq_true rfl) (by decide) (by decide) (by decide) (by decide) (fun _ _ _ hf => False.elim hf) (fun r1 h1 n1 hp1 => ?_)
  obtain ⟨rfl, rfl, rfl⟩ := hp1
  refine aw_if_eq (tgt := 16) dX11_pixelAt_4 (by decide) (fun c4 => ?_) (fun c4 => ?_)
  · replace hE := fit hE c4
    exact aw_lv _ (List.forall_mem_cons.mpr ⟨rfl, fun _ h => absurd h List.not_mem_nil⟩) (b_X11_pixelAt_16 mw mr ms mt mu dd wi hi gt sp ta li sr co hb n   mo _ hE hF)
  · replace hE := fif hE c4
    refine aw_aload_n dX11_pixelAt_7 rfl ?_
    refine aw_getf (v := .ref 35) dX11_pixelAt_8 flX11_21_10 at_mod rfl ?_
    refine aw_iload_n dX11_pixelAt_11 rfl ?_
    obtain ⟨g12, hE⟩ := fgd hE hF
    refine aw_iald (f := wi) dX11_pixelAt_12 at_mwide (vp_in_iff.mpr g12) ?_
    refine aw_if_ne (tgt := 23) dX11_pixelAt_13 (by decide) (fun c13 => ?_) (fun c13 => ?_)
    · replace hE := fif hE c13
      refine aw_iload_n dX11_pixelAt_23 rfl ?_
      refine aw_if_lt (tgt := 51) dX11_pixelAt_24 (by decide) (fun c24 => ?_) (fun c24 => ?_)
      · replace hE := fit hE c24
        exact aw_lv _ (List.forall_mem_cons.mpr ⟨rfl, fun _ h => absurd h List.not_mem_nil⟩) (b_X11_pixelAt_51 mw mr ms mt mu dd wi hi gt sp ta li sr co hb n   mo _ hE hF)
      · replace hE := fif hE c24
        refine aw_iload_n dX11_pixelAt_27 rfl ?_
        refine aw_if_lt (tgt := 51) dX11_pixelAt_28 (by decide) (fun c28 => ?_) (fun c28 => ?_)
        · replace hE := fit hE c28
          exact aw_lv _ (List.forall_mem_cons.mpr ⟨rfl, fun _ h => absurd h List.not_mem_nil⟩) (b_X11_pixelAt_51 mw mr ms mt mu dd wi hi gt sp ta li sr co hb n   mo _ hE hF)
        · replace hE := fif hE c28
          refine aw_iload_n dX11_pixelAt_31 rfl ?_
          refine aw_aload_n dX11_pixelAt_32 rfl ?_
          refine aw_getf (v := .ref 35) dX11_pixelAt_33 flX11_21_10 at_mod rfl ?_
          refine aw_iload_n dX11_pixelAt_36 rfl ?_
          obtain ⟨g37, hE⟩ := fgd hE hF
          refine aw_iald (f := wi) dX11_pixelAt_37 at_mwide (vp_in_iff.mpr g37) ?_
          refine aw_icmp_ge (tgt := 51) dX11_pixelAt_38 (by decide) (fun c38 => ?_) (fun c38 => ?_)
          · replace hE := fit hE c38
            exact aw_lv _ (List.forall_mem_cons.mpr ⟨rfl, fun _ h => absurd h List.not_mem_nil⟩) (b_X11_pixelAt_51 mw mr ms mt mu dd wi hi gt sp ta li sr co hb n   mo _ hE hF)
          · replace hE := fif hE c38
            refine aw_iload_n dX11_pixelAt_41 rfl ?_
            refine aw_aload_n dX11_pixelAt_42 rfl ?_
            refine aw_getf (v := .ref 36) dX11_pixelAt_43 flX11_24_10 at_mod rfl ?_
            refine aw_iload_n dX11_pixelAt_46 rfl ?_
            obtain ⟨g47, hE⟩ := fgd hE hF
            refine aw_iald (f := hi) dX11_pixelAt_47 at_mhigh (vp_in_iff.mpr g47) ?_
            refine aw_icmp_lt (tgt := 58) dX11_pixelAt_48 (by decide) (fun c48 => ?_) (fun c48 => ?_)
            · replace hE := fit hE c48
              refine aw_sipush (v := 4096) dX11_pixelAt_58 (by decide) ?_
              refine aw_iload_n dX11_pixelAt_61 rfl ?_
              refine aw_imul dX11_pixelAt_62 ?_
              refine aw_aload_n dX11_pixelAt_63 rfl ?_
              refine aw_getf (v := .ref 35) dX11_pixelAt_64 flX11_21_10 at_mod rfl ?_
              refine aw_iload_n dX11_pixelAt_67 rfl ?_
              obtain ⟨g68, hE⟩ := fgd hE hF
              refine aw_iald (f := wi) dX11_pixelAt_68 at_mwide (vp_in_iff.mpr g68) ?_
              refine aw_iload_n dX11_pixelAt_69 rfl ?_
              refine aw_imul dX11_pixelAt_70 ?_
              refine aw_iadd dX11_pixelAt_71 ?_
              refine aw_iload_n dX11_pixelAt_72 rfl ?_
              refine aw_iadd dX11_pixelAt_73 ?_
              exact aw_iret dX11_pixelAt_74 rfl (Nat.zero_le _) (Nat.zero_le _) (Nat.zero_le _) (Nat.zero_le _) ⟨_, _, hE.symm, rfl, rfl, rfl⟩
            · replace hE := fif hE c48
              exact aw_lv _ (List.forall_mem_cons.mpr ⟨rfl, fun _ h => absurd h List.not_mem_nil⟩) (b_X11_pixelAt_51 mw mr ms mt mu dd wi hi gt sp ta li sr co hb n   mo _ hE hF)
    · replace hE := fit hE c13
      exact aw_lv _ (List.forall_mem_cons.mpr ⟨rfl, fun _ h => absurd h List.not_mem_nil⟩) (b_X11_pixelAt_16 mw mr ms mt mu dd wi hi gt sp ta li sr co hb n   mo _ hE hF)
def P_X11_sweep (mw : MW) (mr : MR) (ms : Nat) (mt : A) (mu : A) (wi : A) (hi : A) (gt : A) (sp : A) (ta : A) (li : A) (sr : A) (co : A) (hb : aH) (n : Nat) (res : Out (MO × A) Int32) : Option Value → aH → Nat → Prop := fun r1 h2 n2 => ∃ (a : Int32) (s : (MO × A)), res = fok a s ∧ r1 = some (.int a) ∧ h2 = HM s.1 mw mr ms mt mu s.2 wi hi gt sp ta li sr co hb ∧ n = n2
abbrev Q_X11_sweep_28 (mw : MW) (mr : MR) (ms : Nat) (mt : A) (mu : A) (wi : A) (hi : A) (gt : A) (sp : A) (ta : A) (li : A) (sr : A) (co : A) (hb : aH) (n : Nat) (k : Int32 → Int32 → Int32 → Int32 → Int32 → Int32 → MO → A → Out (MO × A) Int32) : Prop := ∀ (v1 : Int32) (v4 : Int32) (v6 : Int32) (v7 : Int32) (v8 : Int32) (v9 : Int32) (mo : MO) (dd : A) (res : Out (MO × A) Int32), k v1 v4 v6 v7 v8 v9 mo dd = res → res ≠ fno → AW (fun _ _ => True) mX11_sweep (rmD 3 0 0) 0 0 (P_X11_sweep mw mr ms mt mu wi hi gt sp ta li sr co hb n res) (fun _ _ _ => False) 0 0 28 [(0, .ref 31), (1, .int v1), (4, .int v4), (6, .int v6), (7, .int v7), (8, .int v8), (9, .int v9)] [] (HM mo mw mr ms mt mu dd wi hi gt sp ta li sr co hb) n
abbrev Q_X11_sweep_76 (mw : MW) (mr : MR) (ms : Nat) (mt : A) (mu : A) (wi : A) (hi : A) (gt : A) (sp : A) (ta : A) (li : A) (sr : A) (co : A) (hb : aH) (n : Nat) (k : Int32 → MO → A → Out (MO × A) Int32) : Prop := ∀ (v8 : Int32) (mo : MO) (dd : A) (res : Out (MO × A) Int32), k v8 mo dd = res → res ≠ fno → AW (fun _ _ => True) mX11_sweep (rmD 3 0 0) 0 0 (P_X11_sweep mw mr ms mt mu wi hi gt sp ta li sr co hb n res) (fun _ _ _ => False) 0 0 76 [(8, .int v8)] [] (HM mo mw mr ms mt mu dd wi hi gt sp ta li sr co hb) n
def F_X11_sweep_76 (wi : A) (hi : A)  (v8 : Int32) (mo : MO) (dd : A) : Out (MO × A) Int32 := fok (v8 : Int32) (mo, dd)
set_option maxHeartbeats 1000000 in
set_option maxRecDepth 100000 in
theorem b_X11_sweep_76 (mw : MW) (mr : MR) (ms : Nat) (mt : A) (mu : A) (wi : A) (hi : A) (gt : A) (sp : A) (ta : A) (li : A) (sr : A) (co : A) (hb : aH) (n : Nat)   : Q_X11_sweep_76 mw mr ms mt mu wi hi gt sp ta li sr co hb n (F_X11_sweep_76 wi hi) := by
  intro v8 mo dd res hE hF
  unfold F_X11_sweep_76 at hE
  refine aw_iload dX11_sweep_76 rfl ?_
  exact aw_iret dX11_sweep_78 rfl (Nat.zero_le _) (Nat.zero_le _) (Nat.zero_le _) (Nat.zero_le _) ⟨_, _, hE.symm, rfl, rfl, rfl⟩
def F_X11_sweep_28 (wi : A) (hi : A) (k28 : Int32 → Int32 → Int32 → Int32 → Int32 → Int32 → MO → A → Out (MO × A) Int32) (v1 : Int32) (v4 : Int32) (v6 : Int32) (v7 : Int32) (v8 : Int32) (v9 : Int32) (mo : MO) (dd : A) : Out (MO × A) Int32 := if v4 ≤ v8 then (F_X11_sweep_76 wi hi v8 mo dd) else (fon (F_X11_many v1 wi hi) (fun z44 s44 => if ((4096 * v1) + z44) ≤ v7 then (F_X11_sweep_76 wi hi v8 mo dd) else (if inb v7 16384 then (k28 v1 v4 v6 (v7 + 1) (v8 + 1) (v9 + v6) mo (upd dd (Int32.toNatClampNeg v7) v9)) else fno)) (fun _ _ => fno))
set_option maxHeartbeats 1000000 in
set_option maxRecDepth 100000 in
theorem b_X11_sweep_28 (mw : MW) (mr : MR) (ms : Nat) (mt : A) (mu : A) (wi : A) (hi : A) (gt : A) (sp : A) (ta : A) (li : A) (sr : A) (co : A) (hb : aH) (n : Nat)  (k28 : Int32 → Int32 → Int32 → Int32 → Int32 → Int32 → MO → A → Out (MO × A) Int32) (hk28 : Q_X11_sweep_28 mw mr ms mt mu wi hi gt sp ta li sr co hb n k28) : Q_X11_sweep_28 mw mr ms mt mu wi hi gt sp ta li sr co hb n (F_X11_sweep_28 wi hi k28) := by
  intro v1 v4 v6 v7 v8 v9 mo dd res hE hF
  unfold F_X11_sweep_28 at hE
  refine aw_iload dX11_sweep_28 rfl ?_
  refine aw_iload dX11_sweep_30 rfl ?_
  refine aw_icmp_ge (tgt := 76) dX11_sweep_32 (by decide) (fun c32 => ?_) (fun c32 => ?_)
  · replace hE := fit hE c32
    exact aw_lv _ (List.forall_mem_cons.mpr ⟨rfl, fun _ h => absurd h List.not_mem_nil⟩) (b_X11_sweep_76 mw mr ms mt mu wi hi gt sp ta li sr co hb n   v8 mo dd _ hE hF)
  · replace hE := fif hE c32
    refine aw_iload dX11_sweep_35 rfl ?_
    refine aw_sipush (v := 4096) dX11_sweep_37 (by decide) ?_
    refine aw_iload_n dX11_sweep_40 rfl ?_
    refine aw_imul dX11_sweep_41 ?_
    refine aw_aload_n dX11_sweep_42 rfl ?_
    refine aw_iload_n dX11_sweep_43 rfl ?_
    refine aw_callV dX11_sweep_44 at_mod cvX11_256 rfl (kF_X11_many mo mw mr ms mt mu dd wi hi gt sp ta li sr co hb _  v1 (fon_ne hE hF)) rfl (Nat.le_of_ble_eq_true rfl) (by decide) (by decide) (by decide) (by decide) (fun _ _ _ hf => False.elim hf) (fun r44 h44 n44 hp44 => ?_)
    obtain ⟨z44, s44, e44, rfl, rfl, rfl⟩ := hp44
    replace hE := fon_ok e44 hE
    refine aw_iadd dX11_sweep_47 ?_
    refine aw_icmp_ge (tgt := 76) dX11_sweep_48 (by decide) (fun c48 => ?_) (fun c48 => ?_)
    · replace hE := fit hE c48
      exact aw_lv _ (List.forall_mem_cons.mpr ⟨rfl, fun _ h => absurd h List.not_mem_nil⟩) (b_X11_sweep_76 mw mr ms mt mu wi hi gt sp ta li sr co hb n   v8 mo dd _ hE hF)
    · replace hE := fif hE c48
      refine aw_aload_n dX11_sweep_51 rfl ?_
      refine aw_getf (v := .ref 34) dX11_sweep_52 flX11_17_10 at_mod rfl ?_
      refine aw_iload dX11_sweep_55 rfl ?_
      refine aw_iload dX11_sweep_57 rfl ?_
      obtain ⟨g59, hE⟩ := fgd hE hF
      refine aw_iast (f := dd) dX11_sweep_59 at_mdots (vp_in_iff.mpr g59) ?_
      refine aw_eqh (h2 := HM mo mw mr ms mt mu (upd dd (Int32.toNatClampNeg v7) v9) wi hi gt sp ta li sr co hb) up_mdots ?_
      refine aw_iload dX11_sweep_60 rfl ?_
      refine aw_iload dX11_sweep_62 rfl ?_
      refine aw_iadd dX11_sweep_64 ?_
      refine aw_istore (lv2 := [(9, _), (0, _), (1, _), (4, _), (6, _), (7, _), (8, _)]) dX11_sweep_65 (by decide) rfl ?_
      refine aw_iinc (v := (v7 + 1)) (lv2 := [(7, _), (9, _), (0, _), (1, _), (4, _), (6, _), (8, _)]) dX11_sweep_67 rfl (incE (by decide)) (by decide) rfl ?_
      refine aw_iinc (v := (v8 + 1)) (lv2 := [(8, _), (7, _), (9, _), (0, _), (1, _), (4, _), (6, _)]) dX11_sweep_70 rfl (incE (by decide)) (by decide) rfl ?_
      refine aw_goto (tgt := 28) dX11_sweep_73 (by decide) ?_
      exact aw_lv _ (List.forall_mem_cons.mpr ⟨rfl, (List.forall_mem_cons.mpr ⟨rfl, (List.forall_mem_cons.mpr ⟨rfl, (List.forall_mem_cons.mpr ⟨rfl, (List.forall_mem_cons.mpr ⟨rfl, (List.forall_mem_cons.mpr ⟨rfl, (List.forall_mem_cons.mpr ⟨rfl, fun _ h => absurd h List.not_mem_nil⟩)⟩)⟩)⟩)⟩)⟩)⟩) (hk28 v1 v4 v6 (v7 + 1) (v8 + 1) (v9 + v6) mo (upd dd (Int32.toNatClampNeg v7) v9) _ hE hF)
def F_X11_sweep (a1 : Int32) (a2 : Int32) (a3 : Int32) (a4 : Int32) (a5 : Int32) (a6 : Int32) (mo : MO) (dd : A) (wi : A) (hi : A) : Out (MO × A) Int32 := fon (F_X11_pixelAt a1 a2 a3 ((mo_taped mo), 0, (mo_tf mo), (mo_t1 mo), (mo_t2 mo), (mo_t3 mo), (mo_fp mo)) wi hi) (fun z9 s9 => if 0 ≤ z9 then (lp (fun _ _ _ _ _ _ _ _ => fno) (F_X11_sweep_28 wi hi) FU a1 a4 a6 z9 (0 : Int32) a5 s9 dd) else (fok (0 : Int32) (s9, dd))) (fun _ _ => fno)
set_option maxHeartbeats 1000000 in
set_option maxRecDepth 100000 in
theorem kF_X11_sweep (mo : MO) (mw : MW) (mr : MR) (ms : Nat) (mt : A) (mu : A) (dd : A) (wi : A) (hi : A) (gt : A) (sp : A) (ta : A) (li : A) (sr : A) (co : A) (hb : aH) (n : Nat)  (a1 : Int32) (a2 : Int32) (a3 : Int32) (a4 : Int32) (a5 : Int32) (a6 : Int32) (hF : F_X11_sweep a1 a2 a3 a4 a5 a6 mo dd wi hi ≠ fno) : AM mX11_sweep 3 [.ref 31, .int a1, .int a2, .int a3, .int a4, .int a5, .int a6] (HM mo mw mr ms mt mu dd wi hi gt sp ta li sr co hb) n 0 0 0 0 (P_X11_sweep mw mr ms mt mu wi hi gt sp ta li sr co hb n (F_X11_sweep a1 a2 a3 a4 a5 a6 mo dd wi hi)) (fun _ _ _ => False) := by
  generalize hE : F_X11_sweep a1 a2 a3 a4 a5 a6 mo dd wi hi = res at hF ⊢
  refine aw_of (by decide +kernel) rfl (Nat.le_of_ble_eq_true rfl) ?_
  unfold F_X11_sweep at hE
  refine aw_aload_n dX11_sweep_0 rfl ?_
  refine aw_iconst (v := 0) dX11_sweep_1 (by decide) ?_
  refine aw_putf dX11_sweep_2 ptX11_61_10 at_mod (Nat.le_of_ble_eq_true rfl) ⟨rfl, rfl⟩ ?_
  refine aw_eqh (h2 := HM ((mo_taped mo), 0, (mo_tf mo), (mo_t1 mo), (mo_t2 mo), (mo_t3 mo), (mo_fp mo)) mw mr ms mt mu dd wi hi gt sp ta li sr co hb) up_mod ?_
  refine aw_aload_n dX11_sweep_5 rfl ?_
  refine aw_iload_n dX11_sweep_6 rfl ?_
  refine aw_iload_n dX11_sweep_7 rfl ?_
  refine aw_iload_n dX11_sweep_8 rfl ?_
  refine aw_callV dX11_sweep_9 at_mod cvX11_334 rfl (kF_X11_pixelAt ((mo_taped mo), 0, (mo_tf mo), (mo_t1 mo), (mo_t2 mo), (mo_t3 mo), (mo_fp mo)) mw mr ms mt mu dd wi hi gt sp ta li sr co hb _  a1 a2 a3 (fon_ne hE hF)) rfl (Nat.le_of_ble_eq_true rfl) (by decide) (by decide) (by decide) (by decide) (fun _ _ _ hf => False.elim hf) (fun r9 h9 n9 hp9 => ?_)
  obtain ⟨z9, s9, e9, rfl, rfl, rfl⟩ := hp9
  replace hE := fon_ok e9 hE
  refine aw_istore (lv2 := [(7, _), (0, _), (1, _), (2, _), (3, _), (4, _), (5, _), (6, _)]) dX11_sweep_12 (by decide) rfl ?_
  refine aw_iload dX11_sweep_14 rfl ?_
  refine aw_if_ge (tgt := 21) dX11_sweep_16 (by decide) (fun c16 => ?_) (fun c16 => ?_)
  · replace hE := fit hE c16
    refine aw_iconst (v := 0) dX11_sweep_21 (by decide) ?_
    refine aw_istore (lv2 := [(8, _), (7, _), (0, _), (1, _), (2, _), (3, _), (4, _), (5, _), (6, _)]) dX11_sweep_22 (by decide) rfl ?_
    refine aw_iload dX11_sweep_24 rfl ?_
    refine aw_istore (lv2 := [(9, _), (8, _), (7, _), (0, _), (1, _), (2, _), (3, _), (4, _), (5, _), (6, _)]) dX11_sweep_26 (by decide) rfl ?_
    exact aw_lv _ (List.forall_mem_cons.mpr ⟨rfl, (List.forall_mem_cons.mpr ⟨rfl, (List.forall_mem_cons.mpr ⟨rfl, (List.forall_mem_cons.mpr ⟨rfl, (List.forall_mem_cons.mpr ⟨rfl, (List.forall_mem_cons.mpr ⟨rfl, (List.forall_mem_cons.mpr ⟨rfl, fun _ h => absurd h List.not_mem_nil⟩)⟩)⟩)⟩)⟩)⟩)⟩) (lp_ind (Q_X11_sweep_28 mw mr ms mt mu wi hi gt sp ta li sr co hb n) (fun _ _ _ _ _ _ _ _ res hq hF => (hF hq.symm).elim) (fun k hk => b_X11_sweep_28 mw mr ms mt mu wi hi gt sp ta li sr co hb n   k hk) FU a1 a4 a6 z9 (0 : Int32) a5 s9 dd _ hE hF)
  · replace hE := fif hE c16
    refine aw_iconst (v := 0) dX11_sweep_19 (by decide) ?_
    exact aw_iret dX11_sweep_20 rfl (Nat.zero_le _) (Nat.zero_le _) (Nat.zero_le _) (Nat.zero_le _) ⟨_, _, hE.symm, rfl, rfl, rfl⟩
def P_X11_pixel (mw : MW) (mr : MR) (ms : Nat) (mt : A) (mu : A) (dd : A) (wi : A) (hi : A) (gt : A) (sp : A) (ta : A) (li : A) (sr : A) (co : A) (hb : aH) (n : Nat) (res : Out MO Int32) : Option Value → aH → Nat → Prop := fun r1 h2 n2 => ∃ (a : Int32) (s : MO), res = fok a s ∧ r1 = some (.int a) ∧ h2 = HM s mw mr ms mt mu dd wi hi gt sp ta li sr co hb ∧ n = n2
def F_X11_pixel (a1 : Int32) (a2 : Int32) (a3 : Int32) (mo : MO) (dd : A) (wi : A) (hi : A) : Out MO Int32 := fon (F_X11_pixelAt a1 a2 a3 ((mo_taped mo), 0, (mo_tf mo), (mo_t1 mo), (mo_t2 mo), (mo_t3 mo), (mo_fp mo)) wi hi) (fun z9 s9 => if 0 ≤ z9 then (if inb z9 16384 then (fok ((dd (Int32.toNatClampNeg z9)) : Int32) s9) else fno) else (fok (0 : Int32) s9)) (fun _ _ => fno)
set_option maxHeartbeats 1000000 in
set_option maxRecDepth 100000 in
theorem kF_X11_pixel (mo : MO) (mw : MW) (mr : MR) (ms : Nat) (mt : A) (mu : A) (dd : A) (wi : A) (hi : A) (gt : A) (sp : A) (ta : A) (li : A) (sr : A) (co : A) (hb : aH) (n : Nat)  (a1 : Int32) (a2 : Int32) (a3 : Int32) (hF : F_X11_pixel a1 a2 a3 mo dd wi hi ≠ fno) : AM mX11_pixel 3 [.ref 31, .int a1, .int a2, .int a3] (HM mo mw mr ms mt mu dd wi hi gt sp ta li sr co hb) n 0 0 0 0 (P_X11_pixel mw mr ms mt mu dd wi hi gt sp ta li sr co hb n (F_X11_pixel a1 a2 a3 mo dd wi hi)) (fun _ _ _ => False) := by
  generalize hE : F_X11_pixel a1 a2 a3 mo dd wi hi = res at hF ⊢
  refine aw_of (by decide +kernel) rfl (Nat.le_of_ble_eq_true rfl) ?_
  unfold F_X11_pixel at hE
  refine aw_aload_n dX11_pixel_0 rfl ?_
  refine aw_iconst (v := 0) dX11_pixel_1 (by decide) ?_
  refine aw_putf dX11_pixel_2 ptX11_61_10 at_mod (Nat.le_of_ble_eq_true rfl) ⟨rfl, rfl⟩ ?_
  refine aw_eqh (h2 := HM ((mo_taped mo), 0, (mo_tf mo), (mo_t1 mo), (mo_t2 mo), (mo_t3 mo), (mo_fp mo)) mw mr ms mt mu dd wi hi gt sp ta li sr co hb) up_mod ?_
  refine aw_aload_n dX11_pixel_5 rfl ?_
  refine aw_iload_n dX11_pixel_6 rfl ?_
  refine aw_iload_n dX11_pixel_7 rfl ?_
  refine aw_iload_n dX11_pixel_8 rfl ?_
  refine aw_callV dX11_pixel_9 at_mod cvX11_334 rfl (kF_X11_pixelAt ((mo_taped mo), 0, (mo_tf mo), (mo_t1 mo), (mo_t2 mo), (mo_t3 mo), (mo_fp mo)) mw mr ms mt mu dd wi hi gt sp ta li sr co hb _  a1 a2 a3 (fon_ne hE hF)) rfl (Nat.le_of_ble_eq_true rfl) (by decide) (by decide) (by decide) (by decide) (fun _ _ _ hf => False.elim hf) (fun r9 h9 n9 hp9 => ?_)
  obtain ⟨z9, s9, e9, rfl, rfl, rfl⟩ := hp9
  replace hE := fon_ok e9 hE
  refine aw_istore (lv2 := [(4, _), (0, _), (1, _), (2, _), (3, _)]) dX11_pixel_12 (by decide) rfl ?_
  refine aw_iload dX11_pixel_14 rfl ?_
  refine aw_if_ge (tgt := 23) dX11_pixel_16 (by decide) (fun c16 => ?_) (fun c16 => ?_)
  · replace hE := fit hE c16
    refine aw_aload_n dX11_pixel_23 rfl ?_
    refine aw_getf (v := .ref 34) dX11_pixel_24 flX11_17_10 at_mod rfl ?_
    refine aw_iload dX11_pixel_27 rfl ?_
    obtain ⟨g29, hE⟩ := fgd hE hF
    refine aw_iald (f := dd) dX11_pixel_29 at_mdots (vp_in_iff.mpr g29) ?_
    exact aw_iret dX11_pixel_30 rfl (Nat.zero_le _) (Nat.zero_le _) (Nat.zero_le _) (Nat.zero_le _) ⟨_, _, hE.symm, rfl, rfl, rfl⟩
  · replace hE := fif hE c16
    refine aw_iconst (v := 0) dX11_pixel_19 (by decide) ?_
    refine aw_goto (tgt := 30) dX11_pixel_20 (by decide) ?_
    exact aw_iret dX11_pixel_30 rfl (Nat.zero_le _) (Nat.zero_le _) (Nat.zero_le _) (Nat.zero_le _) ⟨_, _, hE.symm, rfl, rfl, rfl⟩
