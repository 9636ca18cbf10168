def P_X11_copy (mw : MW) (mr : MR) (ms : Nat) (mt : A) (mu : A) (gt : A) (sp : A) (ta : A) (li : A) (sr : A) (co : A) (hb : aH) (n : Nat) (res : Out (MO × A × A × A) Int32) : Option Value → aH → Nat → Prop := fun r1 h2 n2 => ∃ (a : Int32) (s : (MO × A × A × A)), res = fok a s ∧ r1 = some (.int a) ∧ h2 = HM s.1 mw mr ms mt mu s.2.1 s.2.2.1 s.2.2.2 gt sp ta li sr co hb ∧ n = n2
abbrev Q_X11_copy_19 (mw : MW) (mr : MR) (ms : Nat) (mt : A) (mu : A) (gt : A) (sp : A) (ta : A) (li : A) (sr : A) (co : A) (hb : aH) (n : Nat) (k : MO → A → A → A → Out (MO × A × A × A) Int32) : Prop := ∀ (mo : MO) (dd : A) (wi : A) (hi : A) (res : Out (MO × A × A × A) Int32), k mo dd wi hi = res → res ≠ fno → AW (fun _ _ => True) mX11_copy (rmD 2 0 0) 0 0 (P_X11_copy mw mr ms mt mu gt sp ta li sr co hb n res) (fun _ _ _ => False) 0 0 19 [] [] (HM mo mw mr ms mt mu dd wi hi gt sp ta li sr co hb) n
abbrev Q_X11_copy_23 (mw : MW) (mr : MR) (ms : Nat) (mt : A) (mu : A) (gt : A) (sp : A) (ta : A) (li : A) (sr : A) (co : A) (hb : aH) (n : Nat) (k : Int32 → Int32 → Int32 → MO → A → A → A → Out (MO × A × A × A) Int32) : Prop := ∀ (v1 : Int32) (v2 : Int32) (v3 : Int32) (mo : MO) (dd : A) (wi : A) (hi : A) (res : Out (MO × A × A × A) Int32), k v1 v2 v3 mo dd wi hi = res → res ≠ fno → AW (fun _ _ => True) mX11_copy (rmD 2 0 0) 0 0 (P_X11_copy mw mr ms mt mu gt sp ta li sr co hb n res) (fun _ _ _ => False) 0 0 23 [(0, .ref 31), (1, .int v1), (2, .int v2), (3, .int v3)] [] (HM mo mw mr ms mt mu dd wi hi gt sp ta li sr co hb) n
def F_X11_copy_23  (k23 : Int32 → Int32 → Int32 → MO → A → A → A → Out (MO × A × A × A) Int32) (v1 : Int32) (v2 : Int32) (v3 : Int32) (mo : MO) (dd : A) (wi : A) (hi : A) : Out (MO × A × A × A) Int32 := fon (F_X11_many v1 wi hi) (fun z26 s26 => if z26 ≤ v3 then (if inb v1 4 then (if inb v2 4 then (if inb v1 4 then (if inb v2 4 then (fok (1 : Int32) (mo, dd, (upd wi (Int32.toNatClampNeg v2) (wi (Int32.toNatClampNeg v1))), (upd hi (Int32.toNatClampNeg v2) (hi (Int32.toNatClampNeg v1))))) else fno) else fno) else fno) else fno) else (if inb ((4096 * v1) + v3) 16384 then (if inb ((4096 * v2) + v3) 16384 then (k23 v1 v2 (v3 + 1) mo (upd dd (Int32.toNatClampNeg ((4096 * v2) + v3)) (dd (Int32.toNatClampNeg ((4096 * v1) + v3)))) wi hi) else fno) else fno)) (fun _ _ => fno)
set_option maxHeartbeats 1000000 in
set_option maxRecDepth 100000 in
theorem b_X11_copy_23 (mw : MW) (mr : MR) (ms : Nat) (mt : A) (mu : A) (gt : A) (sp : A) (ta : A) (li : A) (sr : A) (co : A) (hb : aH) (n : Nat)  (k23 : Int32 → Int32 → Int32 → MO → A → A → A → Out (MO × A × A × A) Int32) (hk23 : Q_X11_copy_23 mw mr ms mt mu gt sp ta li sr co hb n k23) : Q_X11_copy_23 mw mr ms mt mu gt sp ta li sr co hb n (F_X11_copy_23 k23) := by
  intro v1 v2 v3 mo dd wi hi res hE hF
  unfold F_X11_copy_23 at hE
  refine aw_iload_n dX11_copy_23 rfl ?_
  refine aw_aload_n dX11_copy_24 rfl ?_
  refine aw_iload_n dX11_copy_25 rfl ?_
  refine aw_callV dX11_copy_26 at_mod cvX11_256 rfl (kF_X11_many mo mw mr ms mt mu dd wi hi gt sp ta li sr co hb _  v1 (fon_ne hE hF)) rfl (Nat.le_of_ble_eq_true rfl) (by decide) (by decide) (by decide) (by decide) (fun _ _ _ hf => False.elim hf) (fun r26 h26 n26 hp26 => ?_)
  obtain ⟨z26, s26, e26, rfl, rfl, rfl⟩ := hp26
  replace hE := fon_ok e26 hE
  refine aw_icmp_ge (tgt := 62) dX11_copy_29 (by decide) (fun c29 => ?_) (fun c29 => ?_)
  · replace hE := fit hE c29
    refine aw_aload_n dX11_copy_62 rfl ?_
    refine aw_getf (v := .ref 35) dX11_copy_63 flX11_21_10 at_mod rfl ?_
    refine aw_iload_n dX11_copy_66 rfl ?_
    refine aw_aload_n dX11_copy_67 rfl ?_
    refine aw_getf (v := .ref 35) dX11_copy_68 flX11_21_10 at_mod rfl ?_
    refine aw_iload_n dX11_copy_71 rfl ?_
    obtain ⟨g72, hE⟩ := fgd hE hF
    refine aw_iald (f := wi) dX11_copy_72 at_mwide (vp_in_iff.mpr g72) ?_
    obtain ⟨g73, hE⟩ := fgd hE hF
    refine aw_iast (f := wi) dX11_copy_73 at_mwide (vp_in_iff.mpr g73) ?_
    refine aw_eqh (h2 := HM mo mw mr ms mt mu dd (upd wi (Int32.toNatClampNeg v2) (wi (Int32.toNatClampNeg v1))) hi gt sp ta li sr co hb) up_mwide ?_
    refine aw_aload_n dX11_copy_74 rfl ?_
    refine aw_getf (v := .ref 36) dX11_copy_75 flX11_24_10 at_mod rfl ?_
    refine aw_iload_n dX11_copy_78 rfl ?_
    refine aw_aload_n dX11_copy_79 rfl ?_
    refine aw_getf (v := .ref 36) dX11_copy_80 flX11_24_10 at_mod rfl ?_
    refine aw_iload_n dX11_copy_83 rfl ?_
    obtain ⟨g84, hE⟩ := fgd hE hF
    refine aw_iald (f := hi) dX11_copy_84 at_mhigh (vp_in_iff.mpr g84) ?_
    obtain ⟨g85, hE⟩ := fgd hE hF
    refine aw_iast (f := hi) dX11_copy_85 at_mhigh (vp_in_iff.mpr g85) ?_
    refine aw_eqh (h2 := HM mo mw mr ms mt mu dd (upd wi (Int32.toNatClampNeg v2) (wi (Int32.toNatClampNeg v1))) (upd hi (Int32.toNatClampNeg v2) (hi (Int32.toNatClampNeg v1))) gt sp ta li sr co hb) up_mhigh ?_
    refine aw_iconst (v := 1) dX11_copy_86 (by decide) ?_
    exact aw_zret dX11_copy_87 rfl (narB (by decide)) (Nat.zero_le _) (Nat.zero_le _) (Nat.zero_le _) (Nat.zero_le _) ⟨_, _, hE.symm, rfl, rfl, rfl⟩
  · replace hE := fif hE c29
    refine aw_aload_n dX11_copy_32 rfl ?_
    refine aw_getf (v := .ref 34) dX11_copy_33 flX11_17_10 at_mod rfl ?_
    refine aw_sipush (v := 4096) dX11_copy_36 (by decide) ?_
    refine aw_iload_n dX11_copy_39 rfl ?_
    refine aw_imul dX11_copy_40 ?_
    refine aw_iload_n dX11_copy_41 rfl ?_
    refine aw_iadd dX11_copy_42 ?_
    refine aw_aload_n dX11_copy_43 rfl ?_
    refine aw_getf (v := .ref 34) dX11_copy_44 flX11_17_10 at_mod rfl ?_
    refine aw_sipush (v := 4096) dX11_copy_47 (by decide) ?_
    refine aw_iload_n dX11_copy_50 rfl ?_
    refine aw_imul dX11_copy_51 ?_
    refine aw_iload_n dX11_copy_52 rfl ?_
    refine aw_iadd dX11_copy_53 ?_
    obtain ⟨g54, hE⟩ := fgd hE hF
    refine aw_iald (f := dd) dX11_copy_54 at_mdots (vp_in_iff.mpr g54) ?_
    obtain ⟨g55, hE⟩ := fgd hE hF
    refine aw_iast (f := dd) dX11_copy_55 at_mdots (vp_in_iff.mpr g55) ?_
    refine aw_eqh (h2 := HM mo mw mr ms mt mu (upd dd (Int32.toNatClampNeg ((4096 * v2) + v3)) (dd (Int32.toNatClampNeg ((4096 * v1) + v3)))) wi hi gt sp ta li sr co hb) up_mdots ?_
    refine aw_iinc (v := (v3 + 1)) (lv2 := [(3, _), (0, _), (1, _), (2, _)]) dX11_copy_56 rfl (incE (by decide)) (by decide) rfl ?_
    refine aw_goto (tgt := 23) dX11_copy_59 (by decide) ?_
    exact aw_lv _ (List.forall_mem_cons.mpr ⟨rfl, (List.forall_mem_cons.mpr ⟨rfl, (List.forall_mem_cons.mpr ⟨rfl, (List.forall_mem_cons.mpr ⟨rfl, fun _ h => absurd h List.not_mem_nil⟩)⟩)⟩)⟩) (hk23 v1 v2 (v3 + 1) mo (upd dd (Int32.toNatClampNeg ((4096 * v2) + v3)) (dd (Int32.toNatClampNeg ((4096 * v1) + v3)))) wi hi _ hE hF)
def F_X11_copy_19   (mo : MO) (dd : A) (wi : A) (hi : A) : Out (MO × A × A × A) Int32 := fok (0 : Int32) (mo, dd, wi, hi)
set_option maxHeartbeats 1000000 in
set_option maxRecDepth 100000 in
theorem b_X11_copy_19 (mw : MW) (mr : MR) (ms : Nat) (mt : A) (mu : A) (gt : A) (sp : A) (ta : A) (li : A) (sr : A) (co : A) (hb : aH) (n : Nat)   : Q_X11_copy_19 mw mr ms mt mu gt sp ta li sr co hb n (F_X11_copy_19 ) := by
  intro mo dd wi hi res hE hF
  unfold F_X11_copy_19 at hE
  refine aw_iconst (v := 0) dX11_copy_19 (by decide) ?_
  exact aw_zret dX11_copy_20 rfl (narB (by decide)) (Nat.zero_le _) (Nat.zero_le _) (Nat.zero_le _) (Nat.zero_le _) ⟨_, _, hE.symm, rfl, rfl, rfl⟩
def F_X11_copy (a1 : Int32) (a2 : Int32) (mo : MO) (dd : A) (wi : A) (hi : A) : Out (MO × A × A × A) Int32 := if (F_X11_isShelf a1) = 0 then (F_X11_copy_19  ((mo_taped mo), 0, (mo_tf mo), (mo_t1 mo), (mo_t2 mo), (mo_t3 mo), (mo_fp mo)) dd wi hi) else (if (F_X11_isShelf a2) = 0 then (F_X11_copy_19  ((mo_taped mo), 0, (mo_tf mo), (mo_t1 mo), (mo_t2 mo), (mo_t3 mo), (mo_fp mo)) dd wi hi) else (lp (fun _ _ _ _ _ _ _ => fno) (F_X11_copy_23 ) FU a1 a2 (0 : Int32) ((mo_taped mo), 0, (mo_tf mo), (mo_t1 mo), (mo_t2 mo), (mo_t3 mo), (mo_fp mo)) dd wi hi))
set_option maxHeartbeats 1000000 in
set_option maxRecDepth 100000 in
theorem kF_X11_copy (mo : MO) (mw : MW) (mr : MR) (ms : Nat) (mt : A) (mu : A) (dd : A) (wi : A) (hi : A) (gt : A) (sp : A) (ta : A) (li : A) (sr : A) (co : A) (hb : aH) (n : Nat)  (a1 : Int32) (a2 : Int32) (hF : F_X11_copy a1 a2 mo dd wi hi ≠ fno) : AM mX11_copy 2 [.ref 31, .int a1, .int a2] (HM mo mw mr ms mt mu dd wi hi gt sp ta li sr co hb) n 0 0 0 0 (P_X11_copy mw mr ms mt mu gt sp ta li sr co hb n (F_X11_copy a1 a2 mo dd wi hi)) (fun _ _ _ => False) := by
  generalize hE : F_X11_copy a1 a2 mo dd wi hi = res at hF ⊢
  refine aw_of (by decide +kernel) rfl (Nat.le_of_ble_eq_true rfl) ?_
  unfold F_X11_copy at hE
  refine aw_aload_n dX11_copy_0 rfl ?_
  refine aw_iconst (v := 0) dX11_copy_1 (by decide) ?_
  refine aw_putf dX11_copy_2 ptX11_61_10 at_mod (Nat.le_of_ble_eq_true rfl) ⟨rfl, rfl⟩ ?_
  refine aw_eqh (h2 := HM ((mo_taped mo), 0, (mo_tf mo), (mo_t1 mo), (mo_t2 mo), (mo_t3 mo), (mo_fp mo)) mw mr ms mt mu dd wi hi gt sp ta li sr co hb) up_mod ?_
  refine aw_iload_n dX11_copy_5 rfl ?_
  refine aw_callS dX11_copy_6  csX11_245 rfl (kF_X11_isShelf _ _ a1) rfl (Nat.le_of_ble_eq_true rfl) (by decide) (by decide) (by decide) (by decide) (fun _ _ _ hf => False.elim hf) (fun r6 h6 n6 hp6 => ?_)
  obtain ⟨rfl, rfl, rfl⟩ := hp6
  refine aw_if_eq (tgt := 19) dX11_copy_9 (by decide) (fun c9 => ?_) (fun c9 => ?_)
  · replace hE := fit hE c9
    exact aw_lv _ (fun _ h => absurd h List.not_mem_nil) (b_X11_copy_19 mw mr ms mt mu gt sp ta li sr co hb n   ((mo_taped mo), 0, (mo_tf mo), (mo_t1 mo), (mo_t2 mo), (mo_t3 mo), (mo_fp mo)) dd wi hi _ hE hF)
  · replace hE := fif hE c9
    refine aw_iload_n dX11_copy_12 rfl ?_
    refine aw_callS dX11_copy_13  csX11_245 rfl (kF_X11_isShelf _ _ a2) rfl (Nat.le_of_ble_eq_true rfl) (by decide) (by decide) (by decide) (by decide) (fun _ _ _ hf => False.elim hf) (fun r13 h13 n13 hp13 => ?_)
    obtain ⟨rfl, rfl, rfl⟩ := hp13
    refine aw_if_ne (tgt := 21) dX11_copy_16 (by decide) (fun c16 => ?_) (fun c16 => ?_)
    · replace hE := fif hE c16
      refine aw_iconst (v := 0) dX11_copy_21 (by decide) ?_
      refine aw_istore_n (lv2 := [(3, _), (0, _), (1, _), (2, _)]) dX11_copy_22 (by decide) rfl ?_
      exact aw_lv _ (List.forall_mem_cons.mpr ⟨rfl, (List.forall_mem_cons.mpr ⟨rfl, (List.forall_mem_cons.mpr ⟨rfl, (List.forall_mem_cons.mpr ⟨rfl, fun _ h => absurd h List.not_mem_nil⟩)⟩)⟩)⟩) (lp_ind (Q_X11_copy_23 mw mr ms mt mu gt sp ta li sr co hb n) (fun _ _ _ _ _ _ _ res hq hF => (hF hq.symm).elim) (fun k hk => b_X11_copy_23 mw mr ms mt mu gt sp ta li sr co hb n   k hk) FU a1 a2 (0 : Int32) ((mo_taped mo), 0, (mo_tf mo), (mo_t1 mo), (mo_t2 mo), (mo_t3 mo), (mo_fp mo)) dd wi hi _ hE hF)
    · replace hE := fit hE c16
      exact aw_lv _ (fun _ h => absurd h List.not_mem_nil) (b_X11_copy_19 mw mr ms mt mu gt sp ta li sr co hb n   ((mo_taped mo), 0, (mo_tf mo), (mo_t1 mo), (mo_t2 mo), (mo_t3 mo), (mo_fp mo)) dd wi hi _ hE hF)
def P_X11_same (mw : MW) (mr : MR) (ms : Nat) (mt : A) (mu : A) (dd : A) (wi : A) (hi : A) (gt : A) (sp : A) (ta : A) (li : A) (sr : A) (co : A) (hb : aH) (n : Nat) (res : Out MO Int32) : Option Value → aH → Nat → Prop := fun r1 h2 n2 => ∃ (a : Int32) (s : MO), res = fok a s ∧ r1 = some (.int a) ∧ h2 = HM s mw mr ms mt mu dd wi hi gt sp ta li sr co hb ∧ n = n2
abbrev Q_X11_same_49 (mw : MW) (mr : MR) (ms : Nat) (mt : A) (mu : A) (dd : A) (wi : A) (hi : A) (gt : A) (sp : A) (ta : A) (li : A) (sr : A) (co : A) (hb : aH) (n : Nat) (k : MO → Out MO Int32) : Prop := ∀ (mo : MO) (res : Out MO Int32), k mo = res → res ≠ fno → AW (fun _ _ => True) mX11_same (rmD 2 0 0) 0 0 (P_X11_same mw mr ms mt mu dd wi hi gt sp ta li sr co hb n res) (fun _ _ _ => False) 0 0 49 [] [] (HM mo mw mr ms mt mu dd wi hi gt sp ta li sr co hb) n
abbrev Q_X11_same_53 (mw : MW) (mr : MR) (ms : Nat) (mt : A) (mu : A) (dd : A) (wi : A) (hi : A) (gt : A) (sp : A) (ta : A) (li : A) (sr : A) (co : A) (hb : aH) (n : Nat) (k : Int32 → Int32 → Int32 → MO → Out MO Int32) : Prop := ∀ (v1 : Int32) (v2 : Int32) (v3 : Int32) (mo : MO) (res : Out MO Int32), k v1 v2 v3 mo = res → res ≠ fno → AW (fun _ _ => True) mX11_same (rmD 2 0 0) 0 0 (P_X11_same mw mr ms mt mu dd wi hi gt sp ta li sr co hb n res) (fun _ _ _ => False) 0 0 53 [(0, .ref 31), (1, .int v1), (2, .int v2), (3, .int v3)] [] (HM mo mw mr ms mt mu dd wi hi gt sp ta li sr co hb) n
def F_X11_same_53 (dd : A) (wi : A) (hi : A) (k53 : Int32 → Int32 → Int32 → MO → Out MO Int32) (v1 : Int32) (v2 : Int32) (v3 : Int32) (mo : MO) : Out MO Int32 := fon (F_X11_many v1 wi hi) (fun z56 s56 => if z56 ≤ v3 then (fok (1 : Int32) mo) else (if inb ((4096 * v1) + v3) 16384 then (if inb ((4096 * v2) + v3) 16384 then (if (dd (Int32.toNatClampNeg ((4096 * v1) + v3))) = (dd (Int32.toNatClampNeg ((4096 * v2) + v3))) then (k53 v1 v2 (v3 + 1) mo) else (fok (0 : Int32) mo)) else fno) else fno)) (fun _ _ => fno)
set_option maxHeartbeats 1000000 in
set_option maxRecDepth 100000 in
theorem b_X11_same_53 (mw : MW) (mr : MR) (ms : Nat) (mt : A) (mu : A) (dd : A) (wi : A) (hi : A) (gt : A) (sp : A) (ta : A) (li : A) (sr : A) (co : A) (hb : aH) (n : Nat)  (k53 : Int32 → Int32 → Int32 → MO → Out MO Int32) (hk53 : Q_X11_same_53 mw mr ms mt mu dd wi hi gt sp ta li sr co hb n k53) : Q_X11_same_53 mw mr ms mt mu dd wi hi gt sp ta li sr co hb n (F_X11_same_53 dd wi hi k53) := by
  intro v1 v2 v3 mo res hE hF
  unfold F_X11_same_53 at hE
  refine aw_iload_n dX11_same_53 rfl ?_
  refine aw_aload_n dX11_same_54 rfl ?_
  refine aw_iload_n dX11_same_55 rfl ?_
  refine aw_callV dX11_same_56 at_mod cvX11_256 rfl (kF_X11_many mo mw mr ms mt mu dd wi hi gt sp ta li sr co hb _  v1 (fon_ne hE hF)) rfl (Nat.le_of_ble_eq_true rfl) (by decide) (by decide) (by decide) (by decide) (fun _ _ _ hf => False.elim hf) (fun r56 h56 n56 hp56 => ?_)
  obtain ⟨z56, s56, e56, rfl, rfl, rfl⟩ := hp56
  replace hE := fon_ok e56 hE
  refine aw_icmp_ge (tgt := 97) dX11_same_59 (by decide) (fun c59 => ?_) (fun c59 => ?_)
  · replace hE := fit hE c59
    refine aw_iconst (v := 1) dX11_same_97 (by decide) ?_
    exact aw_zret dX11_same_98 rfl (narB (by decide)) (Nat.zero_le _) (Nat.zero_le _) (Nat.zero_le _) (Nat.zero_le _) ⟨_, _, hE.symm, rfl, rfl, rfl⟩
  · replace hE := fif hE c59
    refine aw_aload_n dX11_same_62 rfl ?_
    refine aw_getf (v := .ref 34) dX11_same_63 flX11_17_10 at_mod rfl ?_
    refine aw_sipush (v := 4096) dX11_same_66 (by decide) ?_
    refine aw_iload_n dX11_same_69 rfl ?_
    refine aw_imul dX11_same_70 ?_
    refine aw_iload_n dX11_same_71 rfl ?_
    refine aw_iadd dX11_same_72 ?_
    obtain ⟨g73, hE⟩ := fgd hE hF
    refine aw_iald (f := dd) dX11_same_73 at_mdots (vp_in_iff.mpr g73) ?_
    refine aw_aload_n dX11_same_74 rfl ?_
    refine aw_getf (v := .ref 34) dX11_same_75 flX11_17_10 at_mod rfl ?_
    refine aw_sipush (v := 4096) dX11_same_78 (by decide) ?_
    refine aw_iload_n dX11_same_81 rfl ?_
    refine aw_imul dX11_same_82 ?_
    refine aw_iload_n dX11_same_83 rfl ?_
    refine aw_iadd dX11_same_84 ?_
    obtain ⟨g85, hE⟩ := fgd hE hF
    refine aw_iald (f := dd) dX11_same_85 at_mdots (vp_in_iff.mpr g85) ?_
    refine aw_icmp_eq (tgt := 91) dX11_same_86 (by decide) (fun c86 => ?_) (fun c86 => ?_)
    · replace hE := fit hE c86
      refine aw_iinc (v := (v3 + 1)) (lv2 := [(3, _), (0, _), (1, _), (2, _)]) dX11_same_91 rfl (incE (by decide)) (by decide) rfl ?_
      refine aw_goto (tgt := 53) dX11_same_94 (by decide) ?_
      exact aw_lv _ (List.forall_mem_cons.mpr ⟨rfl, (List.forall_mem_cons.mpr ⟨rfl, (List.forall_mem_cons.mpr ⟨rfl, (List.forall_mem_cons.mpr ⟨rfl, fun _ h => absurd h List.not_mem_nil⟩)⟩)⟩)⟩) (hk53 v1 v2 (v3 + 1) mo _ hE hF)
    · replace hE := fif hE c86
      refine aw_iconst (v := 0) dX11_same_89 (by decide) ?_
      exact aw_zret dX11_same_90 rfl (narB (by decide)) (Nat.zero_le _) (Nat.zero_le _) (Nat.zero_le _) (Nat.zero_le _) ⟨_, _, hE.symm, rfl, rfl, rfl⟩
def F_X11_same_49 (dd : A) (wi : A) (hi : A)  (mo : MO) : Out MO Int32 := fok (0 : Int32) mo
set_option maxHeartbeats 1000000 in
set_option maxRecDepth 100000 in
theorem b_X11_same_49 (mw : MW) (mr : MR) (ms : Nat) (mt : A) (mu : A) (dd : A) (wi : A) (hi : A) (gt : A) (sp : A) (ta : A) (li : A) (sr : A) (co : A) (hb : aH) (n : Nat)   : Q_X11_same_49 mw mr ms mt mu dd wi hi gt sp ta li sr co hb n (F_X11_same_49 dd wi hi) := by
  intro mo res hE hF
  unfold F_X11_same_49 at hE
  refine aw_iconst (v := 0) dX11_same_49 (by decide) ?_
  exact aw_zret dX11_same_50 rfl (narB (by decide)) (Nat.zero_le _) (Nat.zero_le _) (Nat.zero_le _) (Nat.zero_le _) ⟨_, _, hE.symm, rfl, rfl, rfl⟩
def F_X11_same (a1 : Int32) (a2 : Int32) (mo : MO) (dd : A) (wi : A) (hi : A) : Out MO Int32 := if (F_X11_isShelf a1) = 0 then (F_X11_same_49 dd wi hi ((mo_taped mo), 0, (mo_tf mo), (mo_t1 mo), (mo_t2 mo), (mo_t3 mo), (mo_fp mo))) else (if (F_X11_isShelf a2) = 0 then (F_X11_same_49 dd wi hi ((mo_taped mo), 0, (mo_tf mo), (mo_t1 mo), (mo_t2 mo), (mo_t3 mo), (mo_fp mo))) else (if inb a1 4 then (if inb a2 4 then (if (wi (Int32.toNatClampNeg a1)) = (wi (Int32.toNatClampNeg a2)) then (if inb a1 4 then (if inb a2 4 then (if (hi (Int32.toNatClampNeg a1)) = (hi (Int32.toNatClampNeg a2)) then (lp (fun _ _ _ _ => fno) (F_X11_same_53 dd wi hi) FU a1 a2 (0 : Int32) ((mo_taped mo), 0, (mo_tf mo), (mo_t1 mo), (mo_t2 mo), (mo_t3 mo), (mo_fp mo))) else (F_X11_same_49 dd wi hi ((mo_taped mo), 0, (mo_tf mo), (mo_t1 mo), (mo_t2 mo), (mo_t3 mo), (mo_fp mo)))) else fno) else fno) else (F_X11_same_49 dd wi hi ((mo_taped mo), 0, (mo_tf mo), (mo_t1 mo), (mo_t2 mo), (mo_t3 mo), (mo_fp mo)))) else fno) else fno))
set_option maxHeartbeats 1000000 in
set_option maxRecDepth 100000 in
theorem kF_X11_same (mo : MO) (mw : MW) (mr : MR) (ms : Nat) (mt : A) (mu : A) (dd : A) (wi : A) (hi : A) (gt : A) (sp : A) (ta : A) (li : A) (sr : A) (co : A) (hb : aH) (n : Nat)  (a1 : Int32) (a2 : Int32) (hF : F_X11_same a1 a2 mo dd wi hi ≠ fno) : AM mX11_same 2 [.ref 31, .int a1, .int a2] (HM mo mw mr ms mt mu dd wi hi gt sp ta li sr co hb) n 0 0 0 0 (P_X11_same mw mr ms mt mu dd wi hi gt sp ta li sr co hb n (F_X11_same a1 a2 mo dd wi hi)) (fun _ _ _ => False) := by
  generalize hE : F_X11_same a1 a2 mo dd wi hi = res at hF ⊢
  refine aw_of (by decide +kernel) rfl (Nat.le_of_ble_eq_true rfl) ?_
  unfold F_X11_same at hE
  refine aw_aload_n dX11_same_0 rfl ?_
  refine aw_iconst (v := 0) dX11_same_1 (by decide) ?_
  refine aw_putf dX11_same_2 ptX11_61_10 at_mod (Nat.le_of_ble_eq_true rfl) ⟨rfl, rfl⟩ ?_
  refine aw_eqh (h2 := HM ((mo_taped mo), 0, (mo_tf mo), (mo_t1 mo), (mo_t2 mo), (mo_t3 mo), (mo_fp mo)) mw mr ms mt mu dd wi hi gt sp ta li sr co hb) up_mod ?_
  refine aw_iload_n dX11_same_5 rfl ?_
  refine aw_callS dX11_same_6  csX11_245 rfl (kF_X11_isShelf _ _ a1) rfl (Nat.le_of_ble_eq_true rfl) (by decide) (by decide) (by decide) (by decide) (fun _ _ _ hf => False.elim hf) (fun r6 h6 n6 hp6 => ?_)
  obtain ⟨rfl, rfl, rfl⟩ := hp6
  refine aw_if_eq (tgt := 49) dX11_same_9 (by decide) (fun c9 => ?_) (fun c9 => ?_)
  · replace hE := fit hE c9
    exact aw_lv _ (fun _ h => absurd h List.not_mem_nil) (b_X11_same_49 mw mr ms mt mu dd wi hi gt sp ta li sr co hb n   ((mo_taped mo), 0, (mo_tf mo), (mo_t1 mo), (mo_t2 mo), (mo_t3 mo), (mo_fp mo)) _ hE hF)
  · replace hE := fif hE c9
    refine aw_iload_n dX11_same_12 rfl ?_
    refine aw_callS dX11_same_13  csX11_245 rfl (kF_X11_isShelf _ _ a2) rfl (Nat.le_of_ble_eq_true rfl) (by decide) (by decide) (by decide) (by decide) (fun _ _ _ hf => False.elim hf) (fun r13 h13 n13 hp13 => ?_)
    obtain ⟨rfl, rfl, rfl⟩ := hp13
    refine aw_if_eq (tgt := 49) dX11_same_16 (by decide) (fun c16 => ?_) (fun c16 => ?_)
    · replace hE := fit hE c16
      exact aw_lv _ (fun _ h => absurd h List.not_mem_nil) (b_X11_same_49 mw mr ms mt mu dd wi hi gt sp ta li sr co hb n   ((mo_taped mo), 0, (mo_tf mo), (mo_t1 mo), (mo_t2 mo), (mo_t3 mo), (mo_fp mo)) _ hE hF)
    · replace hE := fif hE c16
      refine aw_aload_n dX11_same_19 rfl ?_
      refine aw_getf (v := .ref 35) dX11_same_20 flX11_21_10 at_mod rfl ?_
      refine aw_iload_n dX11_same_23 rfl ?_
      obtain ⟨g24, hE⟩ := fgd hE hF
      refine aw_iald (f := wi) dX11_same_24 at_mwide (vp_in_iff.mpr g24) ?_
      refine aw_aload_n dX11_same_25 rfl ?_
      refine aw_getf (v := .ref 35) dX11_same_26 flX11_21_10 at_mod rfl ?_
      refine aw_iload_n dX11_same_29 rfl ?_
      obtain ⟨g30, hE⟩ := fgd hE hF
      refine aw_iald (f := wi) dX11_same_30 at_mwide (vp_in_iff.mpr g30) ?_
      refine aw_icmp_ne (tgt := 49) dX11_same_31 (by decide) (fun c31 => ?_) (fun c31 => ?_)
      · replace hE := fif hE c31
        exact aw_lv _ (fun _ h => absurd h List.not_mem_nil) (b_X11_same_49 mw mr ms mt mu dd wi hi gt sp ta li sr co hb n   ((mo_taped mo), 0, (mo_tf mo), (mo_t1 mo), (mo_t2 mo), (mo_t3 mo), (mo_fp mo)) _ hE hF)
      · replace hE := fit hE c31
        refine aw_aload_n dX11_same_34 rfl ?_
        refine aw_getf (v := .ref 36) dX11_same_35 flX11_24_10 at_mod rfl ?_
        refine aw_iload_n dX11_same_38 rfl ?_
        obtain ⟨g39, hE⟩ := fgd hE hF
        refine aw_iald (f := hi) dX11_same_39 at_mhigh (vp_in_iff.mpr g39) ?_
        refine aw_aload_n dX11_same_40 rfl ?_
        refine aw_getf (v := .ref 36) dX11_same_41 flX11_24_10 at_mod rfl ?_
        refine aw_iload_n dX11_same_44 rfl ?_
        obtain ⟨g45, hE⟩ := fgd hE hF
        refine aw_iald (f := hi) dX11_same_45 at_mhigh (vp_in_iff.mpr g45) ?_
        refine aw_icmp_eq (tgt := 51) dX11_same_46 (by decide) (fun c46 => ?_) (fun c46 => ?_)
        · replace hE := fit hE c46
          refine aw_iconst (v := 0) dX11_same_51 (by decide) ?_
          refine aw_istore_n (lv2 := [(3, _), (0, _), (1, _), (2, _)]) dX11_same_52 (by decide) rfl ?_
          exact aw_lv _ (List.forall_mem_cons.mpr ⟨rfl, (List.forall_mem_cons.mpr ⟨rfl, (List.forall_mem_cons.mpr ⟨rfl, (List.forall_mem_cons.mpr ⟨rfl, fun _ h => absurd h List.not_mem_nil⟩)⟩)⟩)⟩) (lp_ind (Q_X11_same_53 mw mr ms mt mu dd wi hi gt sp ta li sr co hb n) (fun _ _ _ _ res hq hF => (hF hq.symm).elim) (fun k hk => b_X11_same_53 mw mr ms mt mu dd wi hi gt sp ta li sr co hb n   k hk) FU a1 a2 (0 : Int32) ((mo_taped mo), 0, (mo_tf mo), (mo_t1 mo), (mo_t2 mo), (mo_t3 mo), (mo_fp mo)) _ hE hF)
        · replace hE := fif hE c46
          exact aw_lv _ (fun _ h => absurd h List.not_mem_nil) (b_X11_same_49 mw mr ms mt mu dd wi hi gt sp ta li sr co hb n   ((mo_taped mo), 0, (mo_tf mo), (mo_t1 mo), (mo_t2 mo), (mo_t3 mo), (mo_fp mo)) _ hE hF)
def P_X1_addHigh4 (m0 : Mnt) (sh : Nat → Nat) (rr : Nat → Ras) (ww : Nat → Row) (o : Nat) (so : Nat) (sc : Src) (pl : Pal) (qo : Qoi) (pn : Pnm) (bm : Bmp) (tg : Tga) (px : Pcx) (fa : A) (hb : aH) (n : Nat) (res : Out Row Unit) : Option Value → aH → Nat → Prop := fun r1 h2 n2 => ∃ (a : Unit) (s : Row), res = fok a s ∧ r1 = none ∧ h2 = HC m0 sh rr (va_up ww o s) so sc pl qo pn bm tg px fa hb ∧ n = n2
def F_X1_addHigh4 (a1 : Int32) (y : Row) : Out Row Unit := fon (F_X1_add (a1 >>> ((24 : Int32) &&& 31)) y) (fun z5 s5 => fon (F_X1_add (a1 >>> ((16 : Int32) &&& 31)) s5) (fun z13 s13 => fon (F_X1_add (a1 >>> ((8 : Int32) &&& 31)) s13) (fun z21 s21 => fon (F_X1_add a1 s21) (fun z26 s26 => fok () s26) (fun _ _ => fno)) (fun _ _ => fno)) (fun _ _ => fno)) (fun _ _ => fno)
set_option maxHeartbeats 1000000 in
set_option maxRecDepth 100000 in
theorem kF_X1_addHigh4 (m0 : Mnt) (sh : Nat → Nat) (rr : Nat → Ras) (ww : Nat → Row) (o : Nat) (y : Row) (so : Nat) (sc : Src) (pl : Pal) (qo : Qoi) (pn : Pnm) (bm : Bmp) (tg : Tga) (px : Pcx) (fa : A) (hb : aH) (n : Nat) (ho : isW o) (a1 : Int32) (hF : F_X1_addHigh4 a1 y ≠ fno) : AM mX1_addHigh4 2 [.ref o, .int a1] (HC m0 sh rr (va_up ww o y) so sc pl qo pn bm tg px fa hb) n 0 0 0 0 (P_X1_addHigh4 m0 sh rr ww o so sc pl qo pn bm tg px fa hb n (F_X1_addHigh4 a1 y)) (fun _ _ _ => False) := by
  generalize hE : F_X1_addHigh4 a1 y = res at hF ⊢
  refine aw_of (by decide +kernel) rfl (Nat.le_of_ble_eq_true rfl) ?_
  unfold F_X1_addHigh4 at hE
  refine aw_aload_n dX1_addHigh4_0 rfl ?_
  refine aw_iload_n dX1_addHigh4_1 rfl ?_
  refine aw_bipush (v := 24) dX1_addHigh4_2 (by decide) ?_
  refine aw_ishr dX1_addHigh4_4 ?_
  refine aw_callV dX1_addHigh4_5 (at_row ho) cvX1_20 rfl (kF_X1_add m0 sh rr ww o y so sc pl qo pn bm tg px fa hb _ ho (a1 >>> ((24 : Int32) &&& 31)) (fon_ne hE hF)) rfl (Nat.le_of_ble_eq_true rfl) (by decide) (by decide) (by decide) (by decide) (fun _ _ _ hf => False.elim hf) (fun r5 h5 n5 hp5 => ?_)
  obtain ⟨z5, s5, e5, rfl, rfl, rfl⟩ := hp5
  replace hE := fon_ok e5 hE
  refine aw_aload_n dX1_addHigh4_8 rfl ?_
  refine aw_iload_n dX1_addHigh4_9 rfl ?_
  refine aw_bipush (v := 16) dX1_addHigh4_10 (by decide) ?_
  refine aw_ishr dX1_addHigh4_12 ?_
  refine aw_callV dX1_addHigh4_13 (at_row ho) cvX1_20 rfl (kF_X1_add m0 sh rr ww o s5 so sc pl qo pn bm tg px fa hb _ ho (a1 >>> ((16 : Int32) &&& 31)) (fon_ne hE hF)) rfl (Nat.le_of_ble_eq_true rfl) (by decide) (by decide) (by decide) (by decide) (fun _ _ _ hf => False.elim hf) (fun r13 h13 n13 hp13 => ?_)
  obtain ⟨z13, s13, e13, rfl, rfl, rfl⟩ := hp13
  replace hE := fon_ok e13 hE
  refine aw_aload_n dX1_addHigh4_16 rfl ?_
  refine aw_iload_n dX1_addHigh4_17 rfl ?_
  refine aw_bipush (v := 8) dX1_addHigh4_18 (by decide) ?_
  refine aw_ishr dX1_addHigh4_20 ?_
  refine aw_callV dX1_addHigh4_21 (at_row ho) cvX1_20 rfl (kF_X1_add m0 sh rr ww o s13 so sc pl qo pn bm tg px fa hb _ ho (a1 >>> ((8 : Int32) &&& 31)) (fon_ne hE hF)) rfl (Nat.le_of_ble_eq_true rfl) (by decide) (by decide) (by decide) (by decide) (fun _ _ _ hf => False.elim hf) (fun r21 h21 n21 hp21 => ?_)
  obtain ⟨z21, s21, e21, rfl, rfl, rfl⟩ := hp21
  replace hE := fon_ok e21 hE
  refine aw_aload_n dX1_addHigh4_24 rfl ?_
  refine aw_iload_n dX1_addHigh4_25 rfl ?_
  refine aw_callV dX1_addHigh4_26 (at_row ho) cvX1_20 rfl (kF_X1_add m0 sh rr ww o s21 so sc pl qo pn bm tg px fa hb _ ho a1 (fon_ne hE hF)) rfl (Nat.le_of_ble_eq_true rfl) (by decide) (by decide) (by decide) (by decide) (fun _ _ _ hf => False.elim hf) (fun r26 h26 n26 hp26 => ?_)
  obtain ⟨z26, s26, e26, rfl, rfl, rfl⟩ := hp26
  replace hE := fon_ok e26 hE
  exact aw_vret dX1_addHigh4_29 rfl (Nat.zero_le _) (Nat.zero_le _) (Nat.zero_le _) (Nat.zero_le _) ⟨_, _, hE.symm, rfl, rfl, rfl⟩
def P_X7_isPlain (m0 : Mnt) (sh : Nat → Nat) (rr : Nat → Ras) (r : Nat) (x : Ras) (ww : Nat → Row) (so : Nat) (sc : Src) (pl : Pal) (qo : Qoi) (pn : Pnm) (bm : Bmp) (tg : Tga) (px : Pcx) (fa : A) (hb : aH) (n : Nat) (res : Out Unit Int32) : Option Value → aH → Nat → Prop := fun r1 h2 n2 => ∃ (a : Int32) (s : Unit), res = fok a s ∧ r1 = some (.int a) ∧ h2 = HC m0 sh (va_up rr r x) ww so sc pl qo pn bm tg px fa hb ∧ n = n2
abbrev Q_X7_isPlain_7 (m0 : Mnt) (sh : Nat → Nat) (rr : Nat → Ras) (r : Nat) (x : Ras) (ww : Nat → Row) (so : Nat) (sc : Src) (pl : Pal) (qo : Qoi) (pn : Pnm) (bm : Bmp) (tg : Tga) (px : Pcx) (fa : A) (hb : aH) (n : Nat) (k : Int32 → Int32 → Out Unit Int32) : Prop := ∀ (v1 : Int32) (v2 : Int32) (res : Out Unit Int32), k v1 v2 = res → res ≠ fno → AW (fun _ _ => True) mX7_isPlain (rmD 2 0 0) 0 0 (P_X7_isPlain m0 sh rr r x ww so sc pl qo pn bm tg px fa hb n res) (fun _ _ _ => False) 0 0 7 [(0, .ref r), (1, .int v1), (2, .int v2)] [] (HC m0 sh (va_up rr r x) ww so sc pl qo pn bm tg px fa hb) n
abbrev Q_X7_isPlain_32 (m0 : Mnt) (sh : Nat → Nat) (rr : Nat → Ras) (r : Nat) (x : Ras) (ww : Nat → Row) (so : Nat) (sc : Src) (pl : Pal) (qo : Qoi) (pn : Pnm) (bm : Bmp) (tg : Tga) (px : Pcx) (fa : A) (hb : aH) (n : Nat) (k : Int32 → Int32 → Out Unit Int32) : Prop := ∀ (v1 : Int32) (v2 : Int32) (res : Out Unit Int32), k v1 v2 = res → res ≠ fno → AW (fun _ _ => True) mX7_isPlain (rmD 2 0 0) 0 0 (P_X7_isPlain m0 sh rr r x ww so sc pl qo pn bm tg px fa hb n res) (fun _ _ _ => False) 0 0 32 [(0, .ref r), (1, .int v1), (2, .int v2)] [] (HC m0 sh (va_up rr r x) ww so sc pl qo pn bm tg px fa hb) n
def F_X7_isPlain_32 (x : Ras) (k7 : Int32 → Int32 → Out Unit Int32) (v1 : Int32) (v2 : Int32) : Out Unit Int32 := k7 v1 (v2 + 1)
set_option maxHeartbeats 1000000 in
set_option maxRecDepth 100000 in
theorem b_X7_isPlain_32 (m0 : Mnt) (sh : Nat → Nat) (rr : Nat → Ras) (r : Nat) (x : Ras) (ww : Nat → Row) (so : Nat) (sc : Src) (pl : Pal) (qo : Qoi) (pn : Pnm) (bm : Bmp) (tg : Tga) (px : Pcx) (fa : A) (hb : aH) (n : Nat) (hr : isR r) (k7 : Int32 → Int32 → Out Unit Int32) (hk7 : Q_X7_isPlain_7 m0 sh rr r x ww so sc pl qo pn bm tg px fa hb n k7) : Q_X7_isPlain_32 m0 sh rr r x ww so sc pl qo pn bm tg px fa hb n (F_X7_isPlain_32 x k7) := by
  intro v1 v2 res hE hF
  unfold F_X7_isPlain_32 at hE
  refine aw_iinc (v := (v2 + 1)) (lv2 := [(2, _), (0, _), (1, _)]) dX7_isPlain_32 rfl (incE (by decide)) (by decide) rfl ?_
  refine aw_goto (tgt := 7) dX7_isPlain_35 (by decide) ?_
  exact aw_lv _ (List.forall_mem_cons.mpr ⟨rfl, (List.forall_mem_cons.mpr ⟨rfl, (List.forall_mem_cons.mpr ⟨rfl, fun _ h => absurd h List.not_mem_nil⟩)⟩)⟩) (hk7 v1 (v2 + 1) _ hE hF)
def F_X7_isPlain_7 (x : Ras) (k7 : Int32 → Int32 → Out Unit Int32) (v1 : Int32) (v2 : Int32) : Out Unit Int32 := if v1 ≤ v2 then (fok (1 : Int32) ()) else (fon (F_X7_get v2 x) (fun z14 s14 => if z14 = 255 then (F_X7_isPlain_32 x k7 v1 v2) else (if z14 = (-1) then (F_X7_isPlain_32 x k7 v1 v2) else (fok (0 : Int32) ()))) (fun _ _ => fno))
set_option maxHeartbeats 1000000 in
set_option maxRecDepth 100000 in
theorem b_X7_isPlain_7 (m0 : Mnt) (sh : Nat → Nat) (rr : Nat → Ras) (r : Nat) (x : Ras) (ww : Nat → Row) (so : Nat) (sc : Src) (pl : Pal) (qo : Qoi) (pn : Pnm) (bm : Bmp) (tg : Tga) (px : Pcx) (fa : A) (hb : aH) (n : Nat) (hr : isR r) (k7 : Int32 → Int32 → Out Unit Int32) (hk7 : Q_X7_isPlain_7 m0 sh rr r x ww so sc pl qo pn bm tg px fa hb n k7) : Q_X7_isPlain_7 m0 sh rr r x ww so sc pl qo pn bm tg px fa hb n (F_X7_isPlain_7 x k7) := by
  intro v1 v2 res hE hF
  unfold F_X7_isPlain_7 at hE
  refine aw_iload_n dX7_isPlain_7 rfl ?_
  refine aw_iload_n dX7_isPlain_8 rfl ?_
  refine aw_icmp_ge (tgt := 38) dX7_isPlain_9 (by decide) (fun c9 => ?_) (fun c9 => ?_)
  · replace hE := fit hE c9
    refine aw_iconst (v := 1) dX7_isPlain_38 (by decide) ?_
    exact aw_zret dX7_isPlain_39 rfl (narB (by decide)) (Nat.zero_le _) (Nat.zero_le _) (Nat.zero_le _) (Nat.zero_le _) ⟨_, _, hE.symm, rfl, rfl, rfl⟩
  · replace hE := fif hE c9
    refine aw_aload_n dX7_isPlain_12 rfl ?_
    refine aw_iload_n dX7_isPlain_13 rfl ?_
    refine aw_callV dX7_isPlain_14 (at_ras hr) cvX7_30 rfl (kF_X7_get m0 sh rr r x ww so sc pl qo pn bm tg px fa hb _ hr v2 (fon_ne hE hF)) rfl (Nat.le_of_ble_eq_true rfl) (by decide) (by decide) (by decide) (by decide) (fun _ _ _ hf => False.elim hf) (fun r14 h14 n14 hp14 => ?_)
    obtain ⟨z14, s14, e14, rfl, rfl, rfl⟩ := hp14
    replace hE := fon_ok e14 hE
    refine aw_istore_n (lv2 := [(3, _), (0, _), (1, _), (2, _)]) dX7_isPlain_17 (by decide) rfl ?_
    refine aw_iload_n dX7_isPlain_18 rfl ?_
    refine aw_sipush (v := 255) dX7_isPlain_19 (by decide) ?_
    refine aw_icmp_eq (tgt := 32) dX7_isPlain_22 (by decide) (fun c22 => ?_) (fun c22 => ?_)
    · replace hE := fit hE c22
      exact aw_lv _ (List.forall_mem_cons.mpr ⟨rfl, (List.forall_mem_cons.mpr ⟨rfl, (List.forall_mem_cons.mpr ⟨rfl, fun _ h => absurd h List.not_mem_nil⟩)⟩)⟩) (b_X7_isPlain_32 m0 sh rr r x ww so sc pl qo pn bm tg px fa hb n hr k7 hk7 v1 v2 _ hE hF)
    · replace hE := fif hE c22
      refine aw_iload_n dX7_isPlain_25 rfl ?_
      refine aw_iconst (v := (-1)) dX7_isPlain_26 (by decide) ?_
      refine aw_icmp_eq (tgt := 32) dX7_isPlain_27 (by decide) (fun c27 => ?_) (fun c27 => ?_)
      · replace hE := fit hE c27
        exact aw_lv _ (List.forall_mem_cons.mpr ⟨rfl, (List.forall_mem_cons.mpr ⟨rfl, (List.forall_mem_cons.mpr ⟨rfl, fun _ h => absurd h List.not_mem_nil⟩)⟩)⟩) (b_X7_isPlain_32 m0 sh rr r x ww so sc pl qo pn bm tg px fa hb n hr k7 hk7 v1 v2 _ hE hF)
      · replace hE := fif hE c27
        refine aw_iconst (v := 0) dX7_isPlain_30 (by decide) ?_
        exact aw_zret dX7_isPlain_31 rfl (narB (by decide)) (Nat.zero_le _) (Nat.zero_le _) (Nat.zero_le _) (Nat.zero_le _) ⟨_, _, hE.symm, rfl, rfl, rfl⟩
def F_X7_isPlain (x : Ras) : Out Unit Int32 := fon (F_X7_count x) (fun z1 s1 => lp (fun _ _ => fno) (F_X7_isPlain_7 x) FU z1 (0 : Int32)) (fun _ _ => fno)
set_option maxHeartbeats 1000000 in
set_option maxRecDepth 100000 in
theorem kF_X7_isPlain (m0 : Mnt) (sh : Nat → Nat) (rr : Nat → Ras) (r : Nat) (x : Ras) (ww : Nat → Row) (so : Nat) (sc : Src) (pl : Pal) (qo : Qoi) (pn : Pnm) (bm : Bmp) (tg : Tga) (px : Pcx) (fa : A) (hb : aH) (n : Nat) (hr : isR r)  (hF : F_X7_isPlain x ≠ fno) : AM mX7_isPlain 2 [.ref r] (HC m0 sh (va_up rr r x) ww so sc pl qo pn bm tg px fa hb) n 0 0 0 0 (P_X7_isPlain m0 sh rr r x ww so sc pl qo pn bm tg px fa hb n (F_X7_isPlain x)) (fun _ _ _ => False) := by
  generalize hE : F_X7_isPlain x = res at hF ⊢
  refine aw_of (by decide +kernel) rfl (Nat.le_of_ble_eq_true rfl) ?_
  unfold F_X7_isPlain at hE
  refine aw_aload_n dX7_isPlain_0 rfl ?_
  refine aw_callV dX7_isPlain_1 (at_ras hr) cvX7_22 rfl (kF_X7_count m0 sh rr r x ww so sc pl qo pn bm tg px fa hb _ hr  (fon_ne hE hF)) rfl (Nat.le_of_ble_eq_true rfl) (by decide) (by decide) (by decide) (by decide) (fun _ _ _ hf => False.elim hf) (fun r1 h1 n1 hp1 => ?_)
  obtain ⟨z1, s1, e1, rfl, rfl, rfl⟩ := hp1
  replace hE := fon_ok e1 hE
  refine aw_istore_n (lv2 := [(1, _), (0, _)]) dX7_isPlain_4 (by decide) rfl ?_
  refine aw_iconst (v := 0) dX7_isPlain_5 (by decide) ?_
  refine aw_istore_n (lv2 := [(2, _), (1, _), (0, _)]) dX7_isPlain_6 (by decide) rfl ?_
  exact aw_lv _ (List.forall_mem_cons.mpr ⟨rfl, (List.forall_mem_cons.mpr ⟨rfl, (List.forall_mem_cons.mpr ⟨rfl, fun _ h => absurd h List.not_mem_nil⟩)⟩)⟩) (lp_ind (Q_X7_isPlain_7 m0 sh rr r x ww so sc pl qo pn bm tg px fa hb n) (fun _ _ res hq hF => (hF hq.symm).elim) (fun k hk => b_X7_isPlain_7 m0 sh rr r x ww so sc pl qo pn bm tg px fa hb n hr  k hk) FU z1 (0 : Int32) _ hE hF)
def P_X7_isOpaque (m0 : Mnt) (sh : Nat → Nat) (rr : Nat → Ras) (r : Nat) (x : Ras) (ww : Nat → Row) (so : Nat) (sc : Src) (pl : Pal) (qo : Qoi) (pn : Pnm) (bm : Bmp) (tg : Tga) (px : Pcx) (fa : A) (hb : aH) (n : Nat) (res : Out Unit Int32) : Option Value → aH → Nat → Prop := fun r1 h2 n2 => ∃ (a : Int32) (s : Unit), res = fok a s ∧ r1 = some (.int a) ∧ h2 = HC m0 sh (va_up rr r x) ww so sc pl qo pn bm tg px fa hb ∧ n = n2
abbrev Q_X7_isOpaque_7 (m0 : Mnt) (sh : Nat → Nat) (rr : Nat → Ras) (r : Nat) (x : Ras) (ww : Nat → Row) (so : Nat) (sc : Src) (pl : Pal) (qo : Qoi) (pn : Pnm) (bm : Bmp) (tg : Tga) (px : Pcx) (fa : A) (hb : aH) (n : Nat) (k : Int32 → Int32 → Out Unit Int32) : Prop := ∀ (v1 : Int32) (v2 : Int32) (res : Out Unit Int32), k v1 v2 = res → res ≠ fno → AW (fun _ _ => True) mX7_isOpaque (rmD 2 0 0) 0 0 (P_X7_isOpaque m0 sh rr r x ww so sc pl qo pn bm tg px fa hb n res) (fun _ _ _ => False) 0 0 7 [(0, .ref r), (1, .int v1), (2, .int v2)] [] (HC m0 sh (va_up rr r x) ww so sc pl qo pn bm tg px fa hb) n
def F_X7_isOpaque_7 (x : Ras) (k7 : Int32 → Int32 → Out Unit Int32) (v1 : Int32) (v2 : Int32) : Out Unit Int32 := if v1 ≤ v2 then (fok (1 : Int32) ()) else (fon (F_X7_get v2 x) (fun z14 s14 => if (F_X10_alphaOf z14) = 255 then (k7 v1 (v2 + 1)) else (fok (0 : Int32) ())) (fun _ _ => fno))
set_option maxHeartbeats 1000000 in
set_option maxRecDepth 100000 in
theorem b_X7_isOpaque_7 (m0 : Mnt) (sh : Nat → Nat) (rr : Nat → Ras) (r : Nat) (x : Ras) (ww : Nat → Row) (so : Nat) (sc : Src) (pl : Pal) (qo : Qoi) (pn : Pnm) (bm : Bmp) (tg : Tga) (px : Pcx) (fa : A) (hb : aH) (n : Nat) (hr : isR r) (k7 : Int32 → Int32 → Out Unit Int32) (hk7 : Q_X7_isOpaque_7 m0 sh rr r x ww so sc pl qo pn bm tg px fa hb n k7) : Q_X7_isOpaque_7 m0 sh rr r x ww so sc pl qo pn bm tg px fa hb n (F_X7_isOpaque_7 x k7) := by
  intro v1 v2 res hE hF
  unfold F_X7_isOpaque_7 at hE
  refine aw_iload_n dX7_isOpaque_7 rfl ?_
  refine aw_iload_n dX7_isOpaque_8 rfl ?_
  refine aw_icmp_ge (tgt := 34) dX7_isOpaque_9 (by decide) (fun c9 => ?_) (fun c9 => ?_)
  · replace hE := fit hE c9
    refine aw_iconst (v := 1) dX7_isOpaque_34 (by decide) ?_
    exact aw_zret dX7_isOpaque_35 rfl (narB (by decide)) (Nat.zero_le _) (Nat.zero_le _) (Nat.zero_le _) (Nat.zero_le _) ⟨_, _, hE.symm, rfl, rfl, rfl⟩
  · replace hE := fif hE c9
    refine aw_aload_n dX7_isOpaque_12 rfl ?_
    refine aw_iload_n dX7_isOpaque_13 rfl ?_
    refine aw_callV dX7_isOpaque_14 (at_ras hr) cvX7_30 rfl (kF_X7_get m0 sh rr r x ww so sc pl qo pn bm tg px fa hb _ hr v2 (fon_ne hE hF)) rfl (Nat.le_of_ble_eq_true rfl) (by decide) (by decide) (by decide) (by decide) (fun _ _ _ hf => False.elim hf) (fun r14 h14 n14 hp14 => ?_)
    obtain ⟨z14, s14, e14, rfl, rfl, rfl⟩ := hp14
    replace hE := fon_ok e14 hE
    refine aw_callSN dX7_isOpaque_17  csX7_34 rfl (kF_X10_alphaOf _ _ z14) rfl (Nat.le_of_ble_eq_true rfl) (by decide) (by decide) (by decide) (by decide)  (fun r17 h17 n17 hp17 => ?_)
    obtain ⟨rfl, rfl, rfl⟩ := hp17
    refine aw_sipush (v := 255) dX7_isOpaque_20 (by decide) ?_
    refine aw_icmp_eq (tgt := 28) dX7_isOpaque_23 (by decide) (fun c23 => ?_) (fun c23 => ?_)
    · replace hE := fit hE c23
      refine aw_iinc (v := (v2 + 1)) (lv2 := [(2, _), (0, _), (1, _)]) dX7_isOpaque_28 rfl (incE (by decide)) (by decide) rfl ?_
      refine aw_goto (tgt := 7) dX7_isOpaque_31 (by decide) ?_
      exact aw_lv _ (List.forall_mem_cons.mpr ⟨rfl, (List.forall_mem_cons.mpr ⟨rfl, (List.forall_mem_cons.mpr ⟨rfl, fun _ h => absurd h List.not_mem_nil⟩)⟩)⟩) (hk7 v1 (v2 + 1) _ hE hF)
    · replace hE := fif hE c23
      refine aw_iconst (v := 0) dX7_isOpaque_26 (by decide) ?_
      exact aw_zret dX7_isOpaque_27 rfl (narB (by decide)) (Nat.zero_le _) (Nat.zero_le _) (Nat.zero_le _) (Nat.zero_le _) ⟨_, _, hE.symm, rfl, rfl, rfl⟩
def F_X7_isOpaque (x : Ras) : Out Unit Int32 := fon (F_X7_count x) (fun z1 s1 => lp (fun _ _ => fno) (F_X7_isOpaque_7 x) FU z1 (0 : Int32)) (fun _ _ => fno)
set_option maxHeartbeats 1000000 in
set_option maxRecDepth 100000 in
theorem kF_X7_isOpaque (m0 : Mnt) (sh : Nat → Nat) (rr : Nat → Ras) (r : Nat) (x : Ras) (ww : Nat → Row) (so : Nat) (sc : Src) (pl : Pal) (qo : Qoi) (pn : Pnm) (bm : Bmp) (tg : Tga) (px : Pcx) (fa : A) (hb : aH) (n : Nat) (hr : isR r)  (hF : F_X7_isOpaque x ≠ fno) : AM mX7_isOpaque 2 [.ref r] (HC m0 sh (va_up rr r x) ww so sc pl qo pn bm tg px fa hb) n 0 0 0 0 (P_X7_isOpaque m0 sh rr r x ww so sc pl qo pn bm tg px fa hb n (F_X7_isOpaque x)) (fun _ _ _ => False) := by
  generalize hE : F_X7_isOpaque x = res at hF ⊢
  refine aw_of (by decide +kernel) rfl (Nat.le_of_ble_eq_true rfl) ?_
  unfold F_X7_isOpaque at hE
  refine aw_aload_n dX7_isOpaque_0 rfl ?_
  refine aw_callV dX7_isOpaque_1 (at_ras hr) cvX7_22 rfl (kF_X7_count m0 sh rr r x ww so sc pl qo pn bm tg px fa hb _ hr  (fon_ne hE hF)) rfl (Nat.le_of_ble_eq_true rfl) (by decide) (by decide) (by decide) (by decide) (fun _ _ _ hf => False.elim hf) (fun r1 h1 n1 hp1 => ?_)
  obtain ⟨z1, s1, e1, rfl, rfl, rfl⟩ := hp1
  replace hE := fon_ok e1 hE
  refine aw_istore_n (lv2 := [(1, _), (0, _)]) dX7_isOpaque_4 (by decide) rfl ?_
  refine aw_iconst (v := 0) dX7_isOpaque_5 (by decide) ?_
  refine aw_istore_n (lv2 := [(2, _), (1, _), (0, _)]) dX7_isOpaque_6 (by decide) rfl ?_
  exact aw_lv _ (List.forall_mem_cons.mpr ⟨rfl, (List.forall_mem_cons.mpr ⟨rfl, (List.forall_mem_cons.mpr ⟨rfl, fun _ h => absurd h List.not_mem_nil⟩)⟩)⟩) (lp_ind (Q_X7_isOpaque_7 m0 sh rr r x ww so sc pl qo pn bm tg px fa hb n) (fun _ _ res hq hF => (hF hq.symm).elim) (fun k hk => b_X7_isOpaque_7 m0 sh rr r x ww so sc pl qo pn bm tg px fa hb n hr  k hk) FU z1 (0 : Int32) _ hE hF)
def P_X7_isGray (m0 : Mnt) (sh : Nat → Nat) (rr : Nat → Ras) (r : Nat) (x : Ras) (ww : Nat → Row) (so : Nat) (sc : Src) (pl : Pal) (qo : Qoi) (pn : Pnm) (bm : Bmp) (tg : Tga) (px : Pcx) (fa : A) (hb : aH) (n : Nat) (res : Out Unit Int32) : Option Value → aH → Nat → Prop := fun r1 h2 n2 => ∃ (a : Int32) (s : Unit), res = fok a s ∧ r1 = some (.int a) ∧ h2 = HC m0 sh (va_up rr r x) ww so sc pl qo pn bm tg px fa hb ∧ n = n2
abbrev Q_X7_isGray_7 (m0 : Mnt) (sh : Nat → Nat) (rr : Nat → Ras) (r : Nat) (x : Ras) (ww : Nat → Row) (so : Nat) (sc : Src) (pl : Pal) (qo : Qoi) (pn : Pnm) (bm : Bmp) (tg : Tga) (px : Pcx) (fa : A) (hb : aH) (n : Nat) (k : Int32 → Int32 → Out Unit Int32) : Prop := ∀ (v1 : Int32) (v2 : Int32) (res : Out Unit Int32), k v1 v2 = res → res ≠ fno → AW (fun _ _ => True) mX7_isGray (rmD 2 0 0) 0 0 (P_X7_isGray m0 sh rr r x ww so sc pl qo pn bm tg px fa hb n res) (fun _ _ _ => False) 0 0 7 [(0, .ref r), (1, .int v1), (2, .int v2)] [] (HC m0 sh (va_up rr r x) ww so sc pl qo pn bm tg px fa hb) n
abbrev Q_X7_isGray_40 (m0 : Mnt) (sh : Nat → Nat) (rr : Nat → Ras) (r : Nat) (x : Ras) (ww : Nat → Row) (so : Nat) (sc : Src) (pl : Pal) (qo : Qoi) (pn : Pnm) (bm : Bmp) (tg : Tga) (px : Pcx) (fa : A) (hb : aH) (n : Nat) (k : Out Unit Int32) : Prop := ∀  (res : Out Unit Int32), k  = res → res ≠ fno → AW (fun _ _ => True) mX7_isGray (rmD 2 0 0) 0 0 (P_X7_isGray m0 sh rr r x ww so sc pl qo pn bm tg px fa hb n res) (fun _ _ _ => False) 0 0 40 [] [] (HC m0 sh (va_up rr r x) ww so sc pl qo pn bm tg px fa hb) n
def F_X7_isGray_40 (x : Ras)   : Out Unit Int32 := fok (0 : Int32) ()
set_option maxHeartbeats 1000000 in
set_option maxRecDepth 100000 in
theorem b_X7_isGray_40 (m0 : Mnt) (sh : Nat → Nat) (rr : Nat → Ras) (r : Nat) (x : Ras) (ww : Nat → Row) (so : Nat) (sc : Src) (pl : Pal) (qo : Qoi) (pn : Pnm) (bm : Bmp) (tg : Tga) (px : Pcx) (fa : A) (hb : aH) (n : Nat) (hr : isR r)  : Q_X7_isGray_40 m0 sh rr r x ww so sc pl qo pn bm tg px fa hb n (F_X7_isGray_40 x) := by
  intro res hE hF
  unfold F_X7_isGray_40 at hE
  refine aw_iconst (v := 0) dX7_isGray_40 (by decide) ?_
  exact aw_zret dX7_isGray_41 rfl (narB (by decide)) (Nat.zero_le _) (Nat.zero_le _) (Nat.zero_le _) (Nat.zero_le _) ⟨_, _, hE.symm, rfl, rfl, rfl⟩
def F_X7_isGray_7 (x : Ras) (k7 : Int32 → Int32 → Out Unit Int32) (v1 : Int32) (v2 : Int32) : Out Unit Int32 := if v1 ≤ v2 then (fok (1 : Int32) ()) else (fon (F_X7_get v2 x) (fun z14 s14 => if (F_X10_redOf z14) = (F_X10_greenOf z14) then (if (F_X10_greenOf z14) = (F_X10_blueOf z14) then (k7 v1 (v2 + 1)) else (F_X7_isGray_40 x )) else (F_X7_isGray_40 x )) (fun _ _ => fno))
set_option maxHeartbeats 1000000 in
set_option maxRecDepth 100000 in
theorem b_X7_isGray_7 (m0 : Mnt) (sh : Nat → Nat) (rr : Nat → Ras) (r : Nat) (x : Ras) (ww : Nat → Row) (so : Nat) (sc : Src) (pl : Pal) (qo : Qoi) (pn : Pnm) (bm : Bmp) (tg : Tga) (px : Pcx) (fa : A) (hb : aH) (n : Nat) (hr : isR r) (k7 : Int32 → Int32 → Out Unit Int32) (hk7 : Q_X7_isGray_7 m0 sh rr r x ww so sc pl qo pn bm tg px fa hb n k7) : Q_X7_isGray_7 m0 sh rr r x ww so sc pl qo pn bm tg px fa hb n (F_X7_isGray_7 x k7) := by
  intro v1 v2 res hE hF
  unfold F_X7_isGray_7 at hE
  refine aw_iload_n dX7_isGray_7 rfl ?_
  refine aw_iload_n dX7_isGray_8 rfl ?_
  refine aw_icmp_ge (tgt := 48) dX7_isGray_9 (by decide) (fun c9 => ?_) (fun c9 => ?_)
  · replace hE := fit hE c9
    refine aw_iconst (v := 1) dX7_isGray_48 (by decide) ?_
    exact aw_zret dX7_isGray_49 rfl (narB (by decide)) (Nat.zero_le _) (Nat.zero_le _) (Nat.zero_le _) (Nat.zero_le _) ⟨_, _, hE.symm, rfl, rfl, rfl⟩
  · replace hE := fif hE c9
    refine aw_aload_n dX7_isGray_12 rfl ?_
    refine aw_iload_n dX7_isGray_13 rfl ?_
    refine aw_callV dX7_isGray_14 (at_ras hr) cvX7_30 rfl (kF_X7_get m0 sh rr r x ww so sc pl qo pn bm tg px fa hb _ hr v2 (fon_ne hE hF)) rfl (Nat.le_of_ble_eq_true rfl) (by decide) (by decide) (by decide) (by decide) (fun _ _ _ hf => False.elim hf) (fun r14 h14 n14 hp14 => ?_)
    obtain ⟨z14, s14, e14, rfl, rfl, rfl⟩ := hp14
    replace hE := fon_ok e14 hE
    refine aw_istore_n (lv2 := [(3, _), (0, _), (1, _), (2, _)]) dX7_isGray_17 (by decide) rfl ?_
    refine aw_iload_n dX7_isGray_18 rfl ?_
    refine aw_callSN dX7_isGray_19  csX7_37 rfl (kF_X10_redOf _ _ z14) rfl (Nat.le_of_ble_eq_true rfl) (by decide) (by decide) (by decide) (by decide)  (fun r19 h19 n19 hp19 => ?_)
    obtain ⟨rfl, rfl, rfl⟩ := hp19
    refine aw_iload_n dX7_isGray_22 rfl ?_
    refine aw_callSN dX7_isGray_23  csX7_40 rfl (kF_X10_greenOf _ _ z14) rfl (Nat.le_of_ble_eq_true rfl) (by decide) (by decide) (by decide) (by decide)  (fun r23 h23 n23 hp23 => ?_)
    obtain ⟨rfl, rfl, rfl⟩ := hp23
    refine aw_icmp_ne (tgt := 40) dX7_isGray_26 (by decide) (fun c26 => ?_) (fun c26 => ?_)
    · replace hE := fif hE c26
      exact aw_lv _ (fun _ h => absurd h List.not_mem_nil) (b_X7_isGray_40 m0 sh rr r x ww so sc pl qo pn bm tg px fa hb n hr   _ hE hF)
    · replace hE := fit hE c26
      refine aw_iload_n dX7_isGray_29 rfl ?_
      refine aw_callSN dX7_isGray_30  csX7_40 rfl (kF_X10_greenOf _ _ z14) rfl (Nat.le_of_ble_eq_true rfl) (by decide) (by decide) (by decide) (by decide)  (fun r30 h30 n30 hp30 => ?_)
      obtain ⟨rfl, rfl, rfl⟩ := hp30
      refine aw_iload_n dX7_isGray_33 rfl ?_
      refine aw_callSN dX7_isGray_34  csX7_43 rfl (kF_X10_blueOf _ _ z14) rfl (Nat.le_of_ble_eq_true rfl) (by decide) (by decide) (by decide) (by decide)  (fun r34 h34 n34 hp34 => ?_)
      obtain ⟨rfl, rfl, rfl⟩ := hp34
      refine aw_icmp_eq (tgt := 42) dX7_isGray_37 (by decide) (fun c37 => ?_) (fun c37 => ?_)
      · replace hE := fit hE c37
        refine aw_iinc (v := (v2 + 1)) (lv2 := [(2, _), (3, _), (0, _), (1, _)]) dX7_isGray_42 rfl (incE (by decide)) (by decide) rfl ?_
        refine aw_goto (tgt := 7) dX7_isGray_45 (by decide) ?_
        exact aw_lv _ (List.forall_mem_cons.mpr ⟨rfl, (List.forall_mem_cons.mpr ⟨rfl, (List.forall_mem_cons.mpr ⟨rfl, fun _ h => absurd h List.not_mem_nil⟩)⟩)⟩) (hk7 v1 (v2 + 1) _ hE hF)
      · replace hE := fif hE c37
        exact aw_lv _ (fun _ h => absurd h List.not_mem_nil) (b_X7_isGray_40 m0 sh rr r x ww so sc pl qo pn bm tg px fa hb n hr   _ hE hF)
def F_X7_isGray (x : Ras) : Out Unit Int32 := fon (F_X7_count x) (fun z1 s1 => lp (fun _ _ => fno) (F_X7_isGray_7 x) FU z1 (0 : Int32)) (fun _ _ => fno)
set_option maxHeartbeats 1000000 in
set_option maxRecDepth 100000 in
theorem kF_X7_isGray (m0 : Mnt) (sh : Nat → Nat) (rr : Nat → Ras) (r : Nat) (x : Ras) (ww : Nat → Row) (so : Nat) (sc : Src) (pl : Pal) (qo : Qoi) (pn : Pnm) (bm : Bmp) (tg : Tga) (px : Pcx) (fa : A) (hb : aH) (n : Nat) (hr : isR r)  (hF : F_X7_isGray x ≠ fno) : AM mX7_isGray 2 [.ref r] (HC m0 sh (va_up rr r x) ww so sc pl qo pn bm tg px fa hb) n 0 0 0 0 (P_X7_isGray m0 sh rr r x ww so sc pl qo pn bm tg px fa hb n (F_X7_isGray x)) (fun _ _ _ => False) := by
  generalize hE : F_X7_isGray x = res at hF ⊢
  refine aw_of (by decide +kernel) rfl (Nat.le_of_ble_eq_true rfl) ?_
  unfold F_X7_isGray at hE
  refine aw_aload_n dX7_isGray_0 rfl ?_
  refine aw_callV dX7_isGray_1 (at_ras hr) cvX7_22 rfl (kF_X7_count m0 sh rr r x ww so sc pl qo pn bm tg px fa hb _ hr  (fon_ne hE hF)) rfl (Nat.le_of_ble_eq_true rfl) (by decide) (by decide) (by decide) (by decide) (fun _ _ _ hf => False.elim hf) (fun r1 h1 n1 hp1 => ?_)
  obtain ⟨z1, s1, e1, rfl, rfl, rfl⟩ := hp1
  replace hE := fon_ok e1 hE
  refine aw_istore_n (lv2 := [(1, _), (0, _)]) dX7_isGray_4 (by decide) rfl ?_
  refine aw_iconst (v := 0) dX7_isGray_5 (by decide) ?_
  refine aw_istore_n (lv2 := [(2, _), (1, _), (0, _)]) dX7_isGray_6 (by decide) rfl ?_
  exact aw_lv _ (List.forall_mem_cons.mpr ⟨rfl, (List.forall_mem_cons.mpr ⟨rfl, (List.forall_mem_cons.mpr ⟨rfl, fun _ h => absurd h List.not_mem_nil⟩)⟩)⟩) (lp_ind (Q_X7_isGray_7 m0 sh rr r x ww so sc pl qo pn bm tg px fa hb n) (fun _ _ res hq hF => (hF hq.symm).elim) (fun k hk => b_X7_isGray_7 m0 sh rr r x ww so sc pl qo pn bm tg px fa hb n hr  k hk) FU z1 (0 : Int32) _ hE hF)
def P_X3_gather (m0 : Mnt) (sh : Nat → Nat) (rr : Nat → Ras) (r : Nat) (x : Ras) (ww : Nat → Row) (so : Nat) (sc : Src) (qo : Qoi) (pn : Pnm) (bm : Bmp) (tg : Tga) (px : Pcx) (fa : A) (hb : aH) (n : Nat) (res : Out Pal Unit) : Option Value → aH → Nat → Prop := fun r1 h2 n2 => ∃ (a : Unit) (s : Pal), res = fok a s ∧ r1 = none ∧ h2 = HC m0 sh (va_up rr r x) ww so sc s qo pn bm tg px fa hb ∧ n = n2
abbrev Q_X3_gather_20 (m0 : Mnt) (sh : Nat → Nat) (rr : Nat → Ras) (r : Nat) (x : Ras) (ww : Nat → Row) (so : Nat) (sc : Src) (qo : Qoi) (pn : Pnm) (bm : Bmp) (tg : Tga) (px : Pcx) (fa : A) (hb : aH) (n : Nat) (k : Int32 → Int32 → Pal → Out Pal Unit) : Prop := ∀ (v2 : Int32) (v3 : Int32) (pl : Pal) (res : Out Pal Unit), k v2 v3 pl = res → res ≠ fno → AW (fun _ _ => True) mX3_gather (rmD 2 0 0) 0 0 (P_X3_gather m0 sh rr r x ww so sc qo pn bm tg px fa hb n res) (fun _ _ _ => False) 0 0 20 [(0, .ref 17), (1, .ref r), (2, .int v2), (3, .int v3)] [] (HC m0 sh (va_up rr r x) ww so sc pl qo pn bm tg px fa hb) n
abbrev Q_X3_gather_92 (m0 : Mnt) (sh : Nat → Nat) (rr : Nat → Ras) (r : Nat) (x : Ras) (ww : Nat → Row) (so : Nat) (sc : Src) (qo : Qoi) (pn : Pnm) (bm : Bmp) (tg : Tga) (px : Pcx) (fa : A) (hb : aH) (n : Nat) (k : Int32 → Int32 → Pal → Out Pal Unit) : Prop := ∀ (v2 : Int32) (v3 : Int32) (pl : Pal) (res : Out Pal Unit), k v2 v3 pl = res → res ≠ fno → AW (fun _ _ => True) mX3_gather (rmD 2 0 0) 0 0 (P_X3_gather m0 sh rr r x ww so sc qo pn bm tg px fa hb n res) (fun _ _ _ => False) 0 0 92 [(0, .ref 17), (1, .ref r), (2, .int v2), (3, .int v3)] [] (HC m0 sh (va_up rr r x) ww so sc pl qo pn bm tg px fa hb) n
def F_X3_gather_92 (x : Ras) (k20 : Int32 → Int32 → Pal → Out Pal Unit) (v2 : Int32) (v3 : Int32) (pl : Pal) : Out Pal Unit := k20 v2 (v3 + 1) pl
set_option maxHeartbeats 1000000 in
set_option maxRecDepth 100000 in
theorem b_X3_gather_92 (m0 : Mnt) (sh : Nat → Nat) (rr : Nat → Ras) (r : Nat) (x : Ras) (ww : Nat → Row) (so : Nat) (sc : Src) (qo : Qoi) (pn : Pnm) (bm : Bmp) (tg : Tga) (px : Pcx) (fa : A) (hb : aH) (n : Nat) (hr : isR r) (k20 : Int32 → Int32 → Pal → Out Pal Unit) (hk20 : Q_X3_gather_20 m0 sh rr r x ww so sc qo pn bm tg px fa hb n k20) : Q_X3_gather_92 m0 sh rr r x ww so sc qo pn bm tg px fa hb n (F_X3_gather_92 x k20) := by
  intro v2 v3 pl res hE hF
  unfold F_X3_gather_92 at hE
  refine aw_iinc (v := (v3 + 1)) (lv2 := [(3, _), (0, _), (1, _), (2, _)]) dX3_gather_92 rfl (incE (by decide)) (by decide) rfl ?_
  refine aw_goto (tgt := 20) dX3_gather_95 (by decide) ?_
  exact aw_lv _ (List.forall_mem_cons.mpr ⟨rfl, (List.forall_mem_cons.mpr ⟨rfl, (List.forall_mem_cons.mpr ⟨rfl, (List.forall_mem_cons.mpr ⟨rfl, fun _ h => absurd h List.not_mem_nil⟩)⟩)⟩)⟩) (hk20 v2 (v3 + 1) pl _ hE hF)
def F_X3_gather_20 (x : Ras) (k20 : Int32 → Int32 → Pal → Out Pal Unit) (v2 : Int32) (v3 : Int32) (pl : Pal) : Out Pal Unit := if v2 ≤ v3 then (fok () pl) else (fon (F_X7_get v3 x) (fun z27 s27 => fon (F_X3_slotOf z27 pl) (fun z35 s35 => if inb z35 8192 then (if ((pl_slot pl) (Int32.toNatClampNeg z35)) = 0 then (if 4096 ≤ (pl_n pl) then (F_X3_gather_92 x k20 v2 v3 pl) else (if inb (pl_n pl) 4096 then (if inb z35 8192 then (F_X3_gather_92 x k20 v2 v3 (((pl_n pl) + 1), (upd (pl_col pl) (Int32.toNatClampNeg (pl_n pl)) z27), (upd (pl_slot pl) (Int32.toNatClampNeg z35) ((pl_n pl) + 1)))) else fno) else fno)) else (F_X3_gather_92 x k20 v2 v3 pl)) else fno) (fun _ _ => fno)) (fun _ _ => fno))
set_option maxHeartbeats 1000000 in
set_option maxRecDepth 100000 in
theorem b_X3_gather_20 (m0 : Mnt) (sh : Nat → Nat) (rr : Nat → Ras) (r : Nat) (x : Ras) (ww : Nat → Row) (so : Nat) (sc : Src) (qo : Qoi) (pn : Pnm) (bm : Bmp) (tg : Tga) (px : Pcx) (fa : A) (hb : aH) (n : Nat) (hr : isR r) (k20 : Int32 → Int32 → Pal → Out Pal Unit) (hk20 : Q_X3_gather_20 m0 sh rr r x ww so sc qo pn bm tg px fa hb n k20) : Q_X3_gather_20 m0 sh rr r x ww so sc qo pn bm tg px fa hb n (F_X3_gather_20 x k20) := by
  intro v2 v3 pl res hE hF
  unfold F_X3_gather_20 at hE
  refine aw_iload_n dX3_gather_20 rfl ?_
  refine aw_iload_n dX3_gather_21 rfl ?_
  refine aw_icmp_ge (tgt := 98) dX3_gather_22 (by decide) (fun c22 => ?_) (fun c22 => ?_)
  · replace hE := fit hE c22
    exact aw_vret dX3_gather_98 rfl (Nat.zero_le _) (Nat.zero_le _) (Nat.zero_le _) (Nat.zero_le _) ⟨_, _, hE.symm, rfl, rfl, rfl⟩
  · replace hE := fif hE c22
    refine aw_aload_n dX3_gather_25 rfl ?_
    refine aw_iload_n dX3_gather_26 rfl ?_
    refine aw_callV dX3_gather_27 (at_ras hr) cvX3_33 rfl (kF_X7_get m0 sh rr r x ww so sc pl qo pn bm tg px fa hb _ hr v3 (fon_ne hE hF)) rfl (Nat.le_of_ble_eq_true rfl) (by decide) (by decide) (by decide) (by decide) (fun _ _ _ hf => False.elim hf) (fun r27 h27 n27 hp27 => ?_)
    obtain ⟨z27, s27, e27, rfl, rfl, rfl⟩ := hp27
    replace hE := fon_ok e27 hE
    refine aw_istore (lv2 := [(4, _), (0, _), (1, _), (2, _), (3, _)]) dX3_gather_30 (by decide) rfl ?_
    refine aw_aload_n dX3_gather_32 rfl ?_
    refine aw_iload dX3_gather_33 rfl ?_
    refine aw_callV dX3_gather_35 at_pal cvX3_37 rfl (kF_X3_slotOf m0 sh (va_up rr r x) ww so sc pl qo pn bm tg px fa hb _  z27 (fon_ne hE hF)) rfl (Nat.le_of_ble_eq_true rfl) (by decide) (by decide) (by decide) (by decide) (fun _ _ _ hf => False.elim hf) (fun r35 h35 n35 hp35 => ?_)
    obtain ⟨z35, s35, e35, rfl, rfl, rfl⟩ := hp35
    replace hE := fon_ok e35 hE
    refine aw_istore (lv2 := [(5, _), (4, _), (0, _), (1, _), (2, _), (3, _)]) dX3_gather_38 (by decide) rfl ?_
    refine aw_aload_n dX3_gather_40 rfl ?_
    refine aw_getf (v := .ref 19) dX3_gather_41 flX3_15_2 at_pal rfl ?_
    refine aw_iload dX3_gather_44 rfl ?_
    obtain ⟨g46, hE⟩ := fgd hE hF
    refine aw_iald (f := (pl_slot pl)) dX3_gather_46 at_palslot (vp_in_iff.mpr g46) ?_
    refine aw_if_ne (tgt := 92) dX3_gather_47 (by decide) (fun c47 => ?_) (fun c47 => ?_)
    · replace hE := fif hE c47
      exact aw_lv _ (List.forall_mem_cons.mpr ⟨rfl, (List.forall_mem_cons.mpr ⟨rfl, (List.forall_mem_cons.mpr ⟨rfl, (List.forall_mem_cons.mpr ⟨rfl, fun _ h => absurd h List.not_mem_nil⟩)⟩)⟩)⟩) (b_X3_gather_92 m0 sh rr r x ww so sc qo pn bm tg px fa hb n hr k20 hk20 v2 v3 pl _ hE hF)
    · replace hE := fit hE c47
      refine aw_aload_n dX3_gather_50 rfl ?_
      refine aw_getf (v := .int (pl_n pl)) dX3_gather_51 flX3_24_2 at_pal rfl ?_
      refine aw_sipush (v := 4096) dX3_gather_54 (by decide) ?_
      refine aw_icmp_ge (tgt := 92) dX3_gather_57 (by decide) (fun c57 => ?_) (fun c57 => ?_)
      · replace hE := fit hE c57
        exact aw_lv _ (List.forall_mem_cons.mpr ⟨rfl, (List.forall_mem_cons.mpr ⟨rfl, (List.forall_mem_cons.mpr ⟨rfl, (List.forall_mem_cons.mpr ⟨rfl, fun _ h => absurd h List.not_mem_nil⟩)⟩)⟩)⟩) (b_X3_gather_92 m0 sh rr r x ww so sc qo pn bm tg px fa hb n hr k20 hk20 v2 v3 pl _ hE hF)
      · replace hE := fif hE c57
        refine aw_aload_n dX3_gather_60 rfl ?_
        refine aw_getf (v := .ref 18) dX3_gather_61 flX3_9_2 at_pal rfl ?_
        refine aw_aload_n dX3_gather_64 rfl ?_
        refine aw_getf (v := .int (pl_n pl)) dX3_gather_65 flX3_24_2 at_pal rfl ?_
        refine aw_iload dX3_gather_68 rfl ?_
        obtain ⟨g70, hE⟩ := fgd hE hF
        refine aw_iast (f := (pl_col pl)) dX3_gather_70 at_palcol (vp_in_iff.mpr g70) ?_
        refine aw_eqh (h2 := HC m0 sh (va_up rr r x) ww so sc ((pl_n pl), (upd (pl_col pl) (Int32.toNatClampNeg (pl_n pl)) z27), (pl_slot pl)) qo pn bm tg px fa hb) up_palcol ?_
        refine aw_aload_n dX3_gather_71 rfl ?_
        refine aw_dup dX3_gather_72 rfl ?_
        refine aw_getf (v := .int (pl_n pl)) dX3_gather_73 flX3_24_2 at_pal rfl ?_
        refine aw_iconst (v := 1) dX3_gather_76 (by decide) ?_
        refine aw_iadd dX3_gather_77 ?_
        refine aw_putf dX3_gather_78 ptX3_24_2 at_pal (Nat.le_of_ble_eq_true rfl) ⟨rfl, rfl⟩ ?_
        refine aw_eqh (h2 := HC m0 sh (va_up rr r x) ww so sc (((pl_n pl) + 1), (upd (pl_col pl) (Int32.toNatClampNeg (pl_n pl)) z27), (pl_slot pl)) qo pn bm tg px fa hb) up_pal ?_
        refine aw_aload_n dX3_gather_81 rfl ?_
        refine aw_getf (v := .ref 19) dX3_gather_82 flX3_15_2 at_pal rfl ?_
        refine aw_iload dX3_gather_85 rfl ?_
        refine aw_aload_n dX3_gather_87 rfl ?_
        refine aw_getf (v := .int ((pl_n pl) + 1)) dX3_gather_88 flX3_24_2 at_pal rfl ?_
        obtain ⟨g91, hE⟩ := fgd hE hF
        refine aw_iast (f := (pl_slot pl)) dX3_gather_91 at_palslot (vp_in_iff.mpr g91) ?_
        refine aw_eqh (h2 := HC m0 sh (va_up rr r x) ww so sc (((pl_n pl) + 1), (upd (pl_col pl) (Int32.toNatClampNeg (pl_n pl)) z27), (upd (pl_slot pl) (Int32.toNatClampNeg z35) ((pl_n pl) + 1))) qo pn bm tg px fa hb) up_palslot ?_
        exact aw_lv _ (List.forall_mem_cons.mpr ⟨rfl, (List.forall_mem_cons.mpr ⟨rfl, (List.forall_mem_cons.mpr ⟨rfl, (List.forall_mem_cons.mpr ⟨rfl, fun _ h => absurd h List.not_mem_nil⟩)⟩)⟩)⟩) (b_X3_gather_92 m0 sh rr r x ww so sc qo pn bm tg px fa hb n hr k20 hk20 v2 v3 (((pl_n pl) + 1), (upd (pl_col pl) (Int32.toNatClampNeg (pl_n pl)) z27), (upd (pl_slot pl) (Int32.toNatClampNeg z35) ((pl_n pl) + 1))) _ hE hF)
def F_X3_gather (x : Ras) (pl : Pal) : Out Pal Unit := fon (F_X7_count x) (fun z14 s14 => lp (fun _ _ _ => fno) (F_X3_gather_20 x) FU z14 (0 : Int32) (0, (pl_col pl), (fillN (pl_slot pl) 8192 0))) (fun _ _ => fno)
set_option maxHeartbeats 1000000 in
set_option maxRecDepth 100000 in
theorem kF_X3_gather (m0 : Mnt) (sh : Nat → Nat) (rr : Nat → Ras) (r : Nat) (x : Ras) (ww : Nat → Row) (so : Nat) (sc : Src) (pl : Pal) (qo : Qoi) (pn : Pnm) (bm : Bmp) (tg : Tga) (px : Pcx) (fa : A) (hb : aH) (n : Nat) (hr : isR r)  (hF : F_X3_gather x pl ≠ fno) : AM mX3_gather 2 [.ref 17, .ref r] (HC m0 sh (va_up rr r x) ww so sc pl qo pn bm tg px fa hb) n 0 0 0 0 (P_X3_gather m0 sh rr r x ww so sc qo pn bm tg px fa hb n (F_X3_gather x pl)) (fun _ _ _ => False) := by
  generalize hE : F_X3_gather x pl = res at hF ⊢
  refine aw_of (by decide +kernel) rfl (Nat.le_of_ble_eq_true rfl) ?_
  unfold F_X3_gather at hE
  refine aw_aload_n dX3_gather_0 rfl ?_
  refine aw_getf (v := .ref 19) dX3_gather_1 flX3_15_2 at_pal rfl ?_
  refine aw_iconst (v := 0) dX3_gather_4 (by decide) ?_
  refine aw_callS dX3_gather_5 csX3_18 rfl (kJ_fill _ _ 19 8192 (pl_slot pl) 0 at_palslot (by decide)) rfl (Nat.le_of_ble_eq_true rfl) (by decide) (by decide) (by decide) (by decide) (fun _ _ _ hf => False.elim hf) (fun r5 h5 n5 hp5 => ?_)
  obtain ⟨rfl, rfl, rfl⟩ := hp5
  refine aw_eqh (h2 := HC m0 sh (va_up rr r x) ww so sc ((pl_n pl), (pl_col pl), (fillN (pl_slot pl) 8192 0)) qo pn bm tg px fa hb) up_palslot ?_
  refine aw_aload_n dX3_gather_8 rfl ?_
  refine aw_iconst (v := 0) dX3_gather_9 (by decide) ?_
  refine aw_putf dX3_gather_10 ptX3_24_2 at_pal (Nat.le_of_ble_eq_true rfl) ⟨rfl, rfl⟩ ?_
  refine aw_eqh (h2 := HC m0 sh (va_up rr r x) ww so sc (0, (pl_col pl), (fillN (pl_slot pl) 8192 0)) qo pn bm tg px fa hb) up_pal ?_
  refine aw_aload_n dX3_gather_13 rfl ?_
  refine aw_callV dX3_gather_14 (at_ras hr) cvX3_28 rfl (kF_X7_count m0 sh rr r x ww so sc (0, (pl_col pl), (fillN (pl_slot pl) 8192 0)) qo pn bm tg px fa hb _ hr  (fon_ne hE hF)) rfl (Nat.le_of_ble_eq_true rfl) (by decide) (by decide) (by decide) (by decide) (fun _ _ _ hf => False.elim hf) (fun r14 h14 n14 hp14 => ?_)
  obtain ⟨z14, s14, e14, rfl, rfl, rfl⟩ := hp14
  replace hE := fon_ok e14 hE
  refine aw_istore_n (lv2 := [(2, _), (0, _), (1, _)]) dX3_gather_17 (by decide) rfl ?_
  refine aw_iconst (v := 0) dX3_gather_18 (by decide) ?_
  refine aw_istore_n (lv2 := [(3, _), (2, _), (0, _), (1, _)]) dX3_gather_19 (by decide) rfl ?_
  exact aw_lv _ (List.forall_mem_cons.mpr ⟨rfl, (List.forall_mem_cons.mpr ⟨rfl, (List.forall_mem_cons.mpr ⟨rfl, (List.forall_mem_cons.mpr ⟨rfl, fun _ h => absurd h List.not_mem_nil⟩)⟩)⟩)⟩) (lp_ind (Q_X3_gather_20 m0 sh rr r x ww so sc qo pn bm tg px fa hb n) (fun _ _ _ res hq hF => (hF hq.symm).elim) (fun k hk => b_X3_gather_20 m0 sh rr r x ww so sc qo pn bm tg px fa hb n hr  k hk) FU z14 (0 : Int32) (0, (pl_col pl), (fillN (pl_slot pl) 8192 0)) _ hE hF)
