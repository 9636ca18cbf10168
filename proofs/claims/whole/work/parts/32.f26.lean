def P_X11_isPlain (mo : MO) (mw : MW) (mr : MR) (ms : Nat) (mt : A) (mu : A) (dd : A) (wi : A) (hi : A) (gt : A) (sp : A) (ta : A) (li : A) (sr : A) (co : A) (hb : aH) (n : Nat) (res : Out Unit Int32) : Option Value → aH → Nat → Prop := fun r1 h2 n2 => ∃ (a : Int32) (s : Unit), res = fok a s ∧ r1 = some (.int a) ∧ h2 = HM mo mw mr ms mt mu dd wi hi gt sp ta li sr co hb ∧ n = n2
abbrev Q_X11_isPlain_2 (mo : MO) (mw : MW) (mr : MR) (ms : Nat) (mt : A) (mu : A) (dd : A) (wi : A) (hi : A) (gt : A) (sp : A) (ta : A) (li : A) (sr : A) (co : A) (hb : aH) (n : Nat) (k : Int32 → Int32 → Out Unit Int32) : Prop := ∀ (v1 : Int32) (v2 : Int32) (res : Out Unit Int32), k v1 v2 = res → res ≠ fno → AW (fun _ _ => True) mX11_isPlain (rmD 2 0 0) 0 0 (P_X11_isPlain mo mw mr ms mt mu dd wi hi gt sp ta li sr co hb n res) (fun _ _ _ => False) 0 0 2 [(0, .ref 31), (1, .int v1), (2, .int v2)] [] (HM mo mw mr ms mt mu dd wi hi gt sp ta li sr co hb) n
abbrev Q_X11_isPlain_47 (mo : MO) (mw : MW) (mr : MR) (ms : Nat) (mt : A) (mu : A) (dd : A) (wi : A) (hi : A) (gt : A) (sp : A) (ta : A) (li : A) (sr : A) (co : A) (hb : aH) (n : Nat) (k : Int32 → Int32 → Out Unit Int32) : Prop := ∀ (v1 : Int32) (v2 : Int32) (res : Out Unit Int32), k v1 v2 = res → res ≠ fno → AW (fun _ _ => True) mX11_isPlain (rmD 2 0 0) 0 0 (P_X11_isPlain mo mw mr ms mt mu dd wi hi gt sp ta li sr co hb n res) (fun _ _ _ => False) 0 0 47 [(0, .ref 31), (1, .int v1), (2, .int v2)] [] (HM mo mw mr ms mt mu dd wi hi gt sp ta li sr co hb) n
def F_X11_isPlain_47 (dd : A) (wi : A) (hi : A) (k2 : Int32 → Int32 → Out Unit Int32) (v1 : Int32) (v2 : Int32) : Out Unit Int32 := k2 v1 (v2 + 1)
set_option maxHeartbeats 1000000 in
set_option maxRecDepth 100000 in
theorem b_X11_isPlain_47 (mo : MO) (mw : MW) (mr : MR) (ms : Nat) (mt : A) (mu : A) (dd : A) (wi : A) (hi : A) (gt : A) (sp : A) (ta : A) (li : A) (sr : A) (co : A) (hb : aH) (n : Nat)  (k2 : Int32 → Int32 → Out Unit Int32) (hk2 : Q_X11_isPlain_2 mo mw mr ms mt mu dd wi hi gt sp ta li sr co hb n k2) : Q_X11_isPlain_47 mo mw mr ms mt mu dd wi hi gt sp ta li sr co hb n (F_X11_isPlain_47 dd wi hi k2) := by
  intro v1 v2 res hE hF
  unfold F_X11_isPlain_47 at hE
  refine aw_iinc (v := (v2 + 1)) (lv2 := [(2, _), (0, _), (1, _)]) dX11_isPlain_47 rfl (incE (by decide)) (by decide) rfl ?_
  refine aw_goto (tgt := 2) dX11_isPlain_50 (by decide) ?_
  exact aw_lv _ (List.forall_mem_cons.mpr ⟨rfl, (List.forall_mem_cons.mpr ⟨rfl, (List.forall_mem_cons.mpr ⟨rfl, fun _ h => absurd h List.not_mem_nil⟩)⟩)⟩) (hk2 v1 (v2 + 1) _ hE hF)
def F_X11_isPlain_2 (dd : A) (wi : A) (hi : A) (k2 : Int32 → Int32 → Out Unit Int32) (v1 : Int32) (v2 : Int32) : Out Unit Int32 := fon (F_X11_many v1 wi hi) (fun z5 s5 => if z5 ≤ v2 then (fok (1 : Int32) ()) else (if inb ((4096 * v1) + v2) 16384 then (if (dd (Int32.toNatClampNeg ((4096 * v1) + v2))) = 255 then (F_X11_isPlain_47 dd wi hi k2 v1 v2) else (if inb ((4096 * v1) + v2) 16384 then (if (dd (Int32.toNatClampNeg ((4096 * v1) + v2))) = (-1) then (F_X11_isPlain_47 dd wi hi k2 v1 v2) else (fok (0 : Int32) ())) else fno)) else fno)) (fun _ _ => fno)
set_option maxHeartbeats 1000000 in
set_option maxRecDepth 100000 in
theorem b_X11_isPlain_2 (mo : MO) (mw : MW) (mr : MR) (ms : Nat) (mt : A) (mu : A) (dd : A) (wi : A) (hi : A) (gt : A) (sp : A) (ta : A) (li : A) (sr : A) (co : A) (hb : aH) (n : Nat)  (k2 : Int32 → Int32 → Out Unit Int32) (hk2 : Q_X11_isPlain_2 mo mw mr ms mt mu dd wi hi gt sp ta li sr co hb n k2) : Q_X11_isPlain_2 mo mw mr ms mt mu dd wi hi gt sp ta li sr co hb n (F_X11_isPlain_2 dd wi hi k2) := by
  intro v1 v2 res hE hF
  unfold F_X11_isPlain_2 at hE
  refine aw_iload_n dX11_isPlain_2 rfl ?_
  refine aw_aload_n dX11_isPlain_3 rfl ?_
  refine aw_iload_n dX11_isPlain_4 rfl ?_
  refine aw_callV dX11_isPlain_5 at_mod cvX11_256 rfl (kF_X11_many mo mw mr ms mt mu dd wi hi gt sp ta li sr co hb _  v1 (fon_ne hE hF)) rfl (Nat.le_of_ble_eq_true rfl) (by decide) (by decide) (by decide) (by decide) (fun _ _ _ hf => False.elim hf) (fun r5 h5 n5 hp5 => ?_)
  obtain ⟨z5, s5, e5, rfl, rfl, rfl⟩ := hp5
  replace hE := fon_ok e5 hE
  refine aw_icmp_ge (tgt := 53) dX11_isPlain_8 (by decide) (fun c8 => ?_) (fun c8 => ?_)
  · replace hE := fit hE c8
    refine aw_iconst (v := 1) dX11_isPlain_53 (by decide) ?_
    exact aw_zret dX11_isPlain_54 rfl (narB (by decide)) (Nat.zero_le _) (Nat.zero_le _) (Nat.zero_le _) (Nat.zero_le _) ⟨_, _, hE.symm, rfl, rfl, rfl⟩
  · replace hE := fif hE c8
    refine aw_aload_n dX11_isPlain_11 rfl ?_
    refine aw_getf (v := .ref 34) dX11_isPlain_12 flX11_17_10 at_mod rfl ?_
    refine aw_sipush (v := 4096) dX11_isPlain_15 (by decide) ?_
    refine aw_iload_n dX11_isPlain_18 rfl ?_
    refine aw_imul dX11_isPlain_19 ?_
    refine aw_iload_n dX11_isPlain_20 rfl ?_
    refine aw_iadd dX11_isPlain_21 ?_
    obtain ⟨g22, hE⟩ := fgd hE hF
    refine aw_iald (f := dd) dX11_isPlain_22 at_mdots (vp_in_iff.mpr g22) ?_
    refine aw_sipush (v := 255) dX11_isPlain_23 (by decide) ?_
    refine aw_icmp_eq (tgt := 47) dX11_isPlain_26 (by decide) (fun c26 => ?_) (fun c26 => ?_)
    · replace hE := fit hE c26
      exact aw_lv _ (List.forall_mem_cons.mpr ⟨rfl, (List.forall_mem_cons.mpr ⟨rfl, (List.forall_mem_cons.mpr ⟨rfl, fun _ h => absurd h List.not_mem_nil⟩)⟩)⟩) (b_X11_isPlain_47 mo mw mr ms mt mu dd wi hi gt sp ta li sr co hb n  k2 hk2 v1 v2 _ hE hF)
    · replace hE := fif hE c26
      refine aw_aload_n dX11_isPlain_29 rfl ?_
      refine aw_getf (v := .ref 34) dX11_isPlain_30 flX11_17_10 at_mod rfl ?_
      refine aw_sipush (v := 4096) dX11_isPlain_33 (by decide) ?_
      refine aw_iload_n dX11_isPlain_36 rfl ?_
      refine aw_imul dX11_isPlain_37 ?_
      refine aw_iload_n dX11_isPlain_38 rfl ?_
      refine aw_iadd dX11_isPlain_39 ?_
      obtain ⟨g40, hE⟩ := fgd hE hF
      refine aw_iald (f := dd) dX11_isPlain_40 at_mdots (vp_in_iff.mpr g40) ?_
      refine aw_iconst (v := (-1)) dX11_isPlain_41 (by decide) ?_
      refine aw_icmp_eq (tgt := 47) dX11_isPlain_42 (by decide) (fun c42 => ?_) (fun c42 => ?_)
      · replace hE := fit hE c42
        exact aw_lv _ (List.forall_mem_cons.mpr ⟨rfl, (List.forall_mem_cons.mpr ⟨rfl, (List.forall_mem_cons.mpr ⟨rfl, fun _ h => absurd h List.not_mem_nil⟩)⟩)⟩) (b_X11_isPlain_47 mo mw mr ms mt mu dd wi hi gt sp ta li sr co hb n  k2 hk2 v1 v2 _ hE hF)
      · replace hE := fif hE c42
        refine aw_iconst (v := 0) dX11_isPlain_45 (by decide) ?_
        exact aw_zret dX11_isPlain_46 rfl (narB (by decide)) (Nat.zero_le _) (Nat.zero_le _) (Nat.zero_le _) (Nat.zero_le _) ⟨_, _, hE.symm, rfl, rfl, rfl⟩
def F_X11_isPlain (a1 : Int32) (dd : A) (wi : A) (hi : A) : Out Unit Int32 := lp (fun _ _ => fno) (F_X11_isPlain_2 dd wi hi) FU a1 (0 : Int32)
set_option maxHeartbeats 1000000 in
set_option maxRecDepth 100000 in
theorem kF_X11_isPlain (mo : MO) (mw : MW) (mr : MR) (ms : Nat) (mt : A) (mu : A) (dd : A) (wi : A) (hi : A) (gt : A) (sp : A) (ta : A) (li : A) (sr : A) (co : A) (hb : aH) (n : Nat)  (a1 : Int32) (hF : F_X11_isPlain a1 dd wi hi ≠ fno) : AM mX11_isPlain 2 [.ref 31, .int a1] (HM mo mw mr ms mt mu dd wi hi gt sp ta li sr co hb) n 0 0 0 0 (P_X11_isPlain mo mw mr ms mt mu dd wi hi gt sp ta li sr co hb n (F_X11_isPlain a1 dd wi hi)) (fun _ _ _ => False) := by
  generalize hE : F_X11_isPlain a1 dd wi hi = res at hF ⊢
  refine aw_of (by decide +kernel) rfl (Nat.le_of_ble_eq_true rfl) ?_
  unfold F_X11_isPlain at hE
  refine aw_iconst (v := 0) dX11_isPlain_0 (by decide) ?_
  refine aw_istore_n (lv2 := [(2, _), (0, _), (1, _)]) dX11_isPlain_1 (by decide) rfl ?_
  exact aw_lv _ (List.forall_mem_cons.mpr ⟨rfl, (List.forall_mem_cons.mpr ⟨rfl, (List.forall_mem_cons.mpr ⟨rfl, fun _ h => absurd h List.not_mem_nil⟩)⟩)⟩) (lp_ind (Q_X11_isPlain_2 mo mw mr ms mt mu dd wi hi gt sp ta li sr co hb n) (fun _ _ res hq hF => (hF hq.symm).elim) (fun k hk => b_X11_isPlain_2 mo mw mr ms mt mu dd wi hi gt sp ta li sr co hb n   k hk) FU a1 (0 : Int32) _ hE hF)
def P_X11_colourCount (mo : MO) (mw : MW) (mr : MR) (ms : Nat) (mt : A) (mu : A) (dd : A) (wi : A) (hi : A) (gt : A) (sp : A) (ta : A) (li : A) (co : A) (hb : aH) (n : Nat) (res : Out A Int32) : Option Value → aH → Nat → Prop := fun r1 h2 n2 => ∃ (a : Int32) (s : A), res = fok a s ∧ r1 = some (.int a) ∧ h2 = HM mo mw mr ms mt mu dd wi hi gt sp ta li s co hb ∧ n = n2
abbrev Q_X11_colourCount_8 (mo : MO) (mw : MW) (mr : MR) (ms : Nat) (mt : A) (mu : A) (dd : A) (wi : A) (hi : A) (gt : A) (sp : A) (ta : A) (li : A) (co : A) (hb : aH) (n : Nat) (k : Int32 → Int32 → Int32 → A → Out A Int32) : Prop := ∀ (v1 : Int32) (v2 : Int32) (v3 : Int32) (sr : A) (res : Out A Int32), k v1 v2 v3 sr = res → res ≠ fno → AW (fun _ _ => True) mX11_colourCount (rmD 2 0 0) 0 0 (P_X11_colourCount mo mw mr ms mt mu dd wi hi gt sp ta li co hb n res) (fun _ _ _ => False) 0 0 8 [(0, .ref 31), (1, .int v1), (2, .int v2), (3, .int v3)] [] (HM mo mw mr ms mt mu dd wi hi gt sp ta li sr co hb) n
abbrev Q_X11_colourCount_43 (mo : MO) (mw : MW) (mr : MR) (ms : Nat) (mt : A) (mu : A) (dd : A) (wi : A) (hi : A) (gt : A) (sp : A) (ta : A) (li : A) (co : A) (hb : aH) (n : Nat) (k : Int32 → Int32 → A → Out A Int32) : Prop := ∀ (v2 : Int32) (v3 : Int32) (sr : A) (res : Out A Int32), k v2 v3 sr = res → res ≠ fno → AW (fun _ _ => True) mX11_colourCount (rmD 2 0 0) 0 0 (P_X11_colourCount mo mw mr ms mt mu dd wi hi gt sp ta li co hb n res) (fun _ _ _ => False) 0 0 43 [(0, .ref 31), (2, .int v2), (3, .int v3)] [] (HM mo mw mr ms mt mu dd wi hi gt sp ta li sr co hb) n
abbrev Q_X11_colourCount_63 (mo : MO) (mw : MW) (mr : MR) (ms : Nat) (mt : A) (mu : A) (dd : A) (wi : A) (hi : A) (gt : A) (sp : A) (ta : A) (li : A) (co : A) (hb : aH) (n : Nat) (k : Int32 → Int32 → A → Out A Int32) : Prop := ∀ (v2 : Int32) (v3 : Int32) (sr : A) (res : Out A Int32), k v2 v3 sr = res → res ≠ fno → AW (fun _ _ => True) mX11_colourCount (rmD 2 0 0) 0 0 (P_X11_colourCount mo mw mr ms mt mu dd wi hi gt sp ta li co hb n res) (fun _ _ _ => False) 0 0 63 [(0, .ref 31), (2, .int v2), (3, .int v3)] [] (HM mo mw mr ms mt mu dd wi hi gt sp ta li sr co hb) n
abbrev Q_X11_colourCount_112 (mo : MO) (mw : MW) (mr : MR) (ms : Nat) (mt : A) (mu : A) (dd : A) (wi : A) (hi : A) (gt : A) (sp : A) (ta : A) (li : A) (co : A) (hb : aH) (n : Nat) (k : Int32 → Int32 → Int32 → A → Out A Int32) : Prop := ∀ (v2 : Int32) (v3 : Int32) (v4 : Int32) (sr : A) (res : Out A Int32), k v2 v3 v4 sr = res → res ≠ fno → AW (fun _ _ => True) mX11_colourCount (rmD 2 0 0) 0 0 (P_X11_colourCount mo mw mr ms mt mu dd wi hi gt sp ta li co hb n res) (fun _ _ _ => False) 0 0 112 [(0, .ref 31), (2, .int v2), (3, .int v3), (4, .int v4)] [] (HM mo mw mr ms mt mu dd wi hi gt sp ta li sr co hb) n
abbrev Q_X11_colourCount_140 (mo : MO) (mw : MW) (mr : MR) (ms : Nat) (mt : A) (mu : A) (dd : A) (wi : A) (hi : A) (gt : A) (sp : A) (ta : A) (li : A) (co : A) (hb : aH) (n : Nat) (k : Int32 → Int32 → Int32 → A → Out A Int32) : Prop := ∀ (v2 : Int32) (v3 : Int32) (v4 : Int32) (sr : A) (res : Out A Int32), k v2 v3 v4 sr = res → res ≠ fno → AW (fun _ _ => True) mX11_colourCount (rmD 2 0 0) 0 0 (P_X11_colourCount mo mw mr ms mt mu dd wi hi gt sp ta li co hb n res) (fun _ _ _ => False) 0 0 140 [(0, .ref 31), (2, .int v2), (3, .int v3), (4, .int v4)] [] (HM mo mw mr ms mt mu dd wi hi gt sp ta li sr co hb) n
def F_X11_colourCount_140 (dd : A) (wi : A) (hi : A) (k112 : Int32 → Int32 → Int32 → A → Out A Int32) (v2 : Int32) (v3 : Int32) (v4 : Int32) (sr : A) : Out A Int32 := k112 v2 v3 (v4 + 1) sr
set_option maxHeartbeats 1000000 in
set_option maxRecDepth 100000 in
theorem b_X11_colourCount_140 (mo : MO) (mw : MW) (mr : MR) (ms : Nat) (mt : A) (mu : A) (dd : A) (wi : A) (hi : A) (gt : A) (sp : A) (ta : A) (li : A) (co : A) (hb : aH) (n : Nat)  (k112 : Int32 → Int32 → Int32 → A → Out A Int32) (hk112 : Q_X11_colourCount_112 mo mw mr ms mt mu dd wi hi gt sp ta li co hb n k112) : Q_X11_colourCount_140 mo mw mr ms mt mu dd wi hi gt sp ta li co hb n (F_X11_colourCount_140 dd wi hi k112) := by
  intro v2 v3 v4 sr res hE hF
  unfold F_X11_colourCount_140 at hE
  refine aw_iinc (v := (v4 + 1)) (lv2 := [(4, _), (0, _), (2, _), (3, _)]) dX11_colourCount_140 rfl (incE (by decide)) (by decide) rfl ?_
  refine aw_goto (tgt := 112) dX11_colourCount_143 (by decide) ?_
  exact aw_lv _ (List.forall_mem_cons.mpr ⟨rfl, (List.forall_mem_cons.mpr ⟨rfl, (List.forall_mem_cons.mpr ⟨rfl, (List.forall_mem_cons.mpr ⟨rfl, fun _ h => absurd h List.not_mem_nil⟩)⟩)⟩)⟩) (hk112 v2 v3 (v4 + 1) sr _ hE hF)
def F_X11_colourCount_112 (dd : A) (wi : A) (hi : A) (k112 : Int32 → Int32 → Int32 → A → Out A Int32) (v2 : Int32) (v3 : Int32) (v4 : Int32) (sr : A) : Out A Int32 := if v2 ≤ v4 then (fok (v3 : Int32) sr) else (if inb v4 4096 then (if inb (v4 - 1) 4096 then (if (sr (Int32.toNatClampNeg v4)) = (sr (Int32.toNatClampNeg (v4 - 1))) then (F_X11_colourCount_140 dd wi hi k112 v2 v3 v4 sr) else (F_X11_colourCount_140 dd wi hi k112 v2 (v3 + 1) v4 sr)) else fno) else fno)
set_option maxHeartbeats 1000000 in
set_option maxRecDepth 100000 in
theorem b_X11_colourCount_112 (mo : MO) (mw : MW) (mr : MR) (ms : Nat) (mt : A) (mu : A) (dd : A) (wi : A) (hi : A) (gt : A) (sp : A) (ta : A) (li : A) (co : A) (hb : aH) (n : Nat)  (k112 : Int32 → Int32 → Int32 → A → Out A Int32) (hk112 : Q_X11_colourCount_112 mo mw mr ms mt mu dd wi hi gt sp ta li co hb n k112) : Q_X11_colourCount_112 mo mw mr ms mt mu dd wi hi gt sp ta li co hb n (F_X11_colourCount_112 dd wi hi k112) := by
  intro v2 v3 v4 sr res hE hF
  unfold F_X11_colourCount_112 at hE
  refine aw_iload dX11_colourCount_112 rfl ?_
  refine aw_iload_n dX11_colourCount_114 rfl ?_
  refine aw_icmp_ge (tgt := 146) dX11_colourCount_115 (by decide) (fun c115 => ?_) (fun c115 => ?_)
  · replace hE := fit hE c115
    refine aw_iload_n dX11_colourCount_146 rfl ?_
    exact aw_iret dX11_colourCount_147 rfl (Nat.zero_le _) (Nat.zero_le _) (Nat.zero_le _) (Nat.zero_le _) ⟨_, _, hE.symm, rfl, rfl, rfl⟩
  · replace hE := fif hE c115
    refine aw_aload_n dX11_colourCount_118 rfl ?_
    refine aw_getf (v := .ref 41) dX11_colourCount_119 flX11_55_10 at_mod rfl ?_
    refine aw_iload dX11_colourCount_122 rfl ?_
    obtain ⟨g124, hE⟩ := fgd hE hF
    refine aw_iald (f := sr) dX11_colourCount_124 at_msorted (vp_in_iff.mpr g124) ?_
    refine aw_aload_n dX11_colourCount_125 rfl ?_
    refine aw_getf (v := .ref 41) dX11_colourCount_126 flX11_55_10 at_mod rfl ?_
    refine aw_iload dX11_colourCount_129 rfl ?_
    refine aw_iconst (v := 1) dX11_colourCount_131 (by decide) ?_
    refine aw_isub dX11_colourCount_132 ?_
    obtain ⟨g133, hE⟩ := fgd hE hF
    refine aw_iald (f := sr) dX11_colourCount_133 at_msorted (vp_in_iff.mpr g133) ?_
    refine aw_icmp_eq (tgt := 140) dX11_colourCount_134 (by decide) (fun c134 => ?_) (fun c134 => ?_)
    · replace hE := fit hE c134
      exact aw_lv _ (List.forall_mem_cons.mpr ⟨rfl, (List.forall_mem_cons.mpr ⟨rfl, (List.forall_mem_cons.mpr ⟨rfl, (List.forall_mem_cons.mpr ⟨rfl, fun _ h => absurd h List.not_mem_nil⟩)⟩)⟩)⟩) (b_X11_colourCount_140 mo mw mr ms mt mu dd wi hi gt sp ta li co hb n  k112 hk112 v2 v3 v4 sr _ hE hF)
    · replace hE := fif hE c134
      refine aw_iinc (v := (v3 + 1)) (lv2 := [(3, _), (0, _), (2, _), (4, _)]) dX11_colourCount_137 rfl (incE (by decide)) (by decide) rfl ?_
      exact aw_lv _ (List.forall_mem_cons.mpr ⟨rfl, (List.forall_mem_cons.mpr ⟨rfl, (List.forall_mem_cons.mpr ⟨rfl, (List.forall_mem_cons.mpr ⟨rfl, fun _ h => absurd h List.not_mem_nil⟩)⟩)⟩)⟩) (b_X11_colourCount_140 mo mw mr ms mt mu dd wi hi gt sp ta li co hb n  k112 hk112 v2 (v3 + 1) v4 sr _ hE hF)
def F_X11_colourCount_63 (dd : A) (wi : A) (hi : A) (k63 : Int32 → Int32 → A → Out A Int32) (v2 : Int32) (v3 : Int32) (sr : A) : Out A Int32 := if v3 ≤ 0 then (lp (fun _ _ _ _ => fno) (F_X11_colourCount_112 dd wi hi) FU v2 (1 : Int32) (1 : Int32) sr) else (if inb 0 4096 then (if inb v3 4096 then (if inb 0 4096 then (if inb v3 4096 then (fon (F_X11_sift 0 v3 (upd (upd sr (Int32.toNatClampNeg 0) (sr (Int32.toNatClampNeg v3))) (Int32.toNatClampNeg v3) (sr (Int32.toNatClampNeg 0)))) (fun z98 s98 => k63 v2 (v3 + (-1)) s98) (fun _ _ => fno)) else fno) else fno) else fno) else fno)
set_option maxHeartbeats 1000000 in
set_option maxRecDepth 100000 in
theorem b_X11_colourCount_63 (mo : MO) (mw : MW) (mr : MR) (ms : Nat) (mt : A) (mu : A) (dd : A) (wi : A) (hi : A) (gt : A) (sp : A) (ta : A) (li : A) (co : A) (hb : aH) (n : Nat)  (k63 : Int32 → Int32 → A → Out A Int32) (hk63 : Q_X11_colourCount_63 mo mw mr ms mt mu dd wi hi gt sp ta li co hb n k63) : Q_X11_colourCount_63 mo mw mr ms mt mu dd wi hi gt sp ta li co hb n (F_X11_colourCount_63 dd wi hi k63) := by
  intro v2 v3 sr res hE hF
  unfold F_X11_colourCount_63 at hE
  refine aw_iload_n dX11_colourCount_63 rfl ?_
  refine aw_if_le (tgt := 107) dX11_colourCount_64 (by decide) (fun c64 => ?_) (fun c64 => ?_)
  · replace hE := fit hE c64
    refine aw_iconst (v := 1) dX11_colourCount_107 (by decide) ?_
    refine aw_istore_n (lv2 := [(3, _), (0, _), (2, _)]) dX11_colourCount_108 (by decide) rfl ?_
    refine aw_iconst (v := 1) dX11_colourCount_109 (by decide) ?_
    refine aw_istore (lv2 := [(4, _), (3, _), (0, _), (2, _)]) dX11_colourCount_110 (by decide) rfl ?_
    exact aw_lv _ (List.forall_mem_cons.mpr ⟨rfl, (List.forall_mem_cons.mpr ⟨rfl, (List.forall_mem_cons.mpr ⟨rfl, (List.forall_mem_cons.mpr ⟨rfl, fun _ h => absurd h List.not_mem_nil⟩)⟩)⟩)⟩) (lp_ind (Q_X11_colourCount_112 mo mw mr ms mt mu dd wi hi gt sp ta li co hb n) (fun _ _ _ _ res hq hF => (hF hq.symm).elim) (fun k hk => b_X11_colourCount_112 mo mw mr ms mt mu dd wi hi gt sp ta li co hb n   k hk) FU v2 (1 : Int32) (1 : Int32) sr _ hE hF)
  · replace hE := fif hE c64
    refine aw_aload_n dX11_colourCount_67 rfl ?_
    refine aw_getf (v := .ref 41) dX11_colourCount_68 flX11_55_10 at_mod rfl ?_
    refine aw_iconst (v := 0) dX11_colourCount_71 (by decide) ?_
    obtain ⟨g72, hE⟩ := fgd hE hF
    refine aw_iald (f := sr) dX11_colourCount_72 at_msorted (vp_in_iff.mpr g72) ?_
    refine aw_istore (lv2 := [(4, _), (0, _), (2, _), (3, _)]) dX11_colourCount_73 (by decide) rfl ?_
    refine aw_aload_n dX11_colourCount_75 rfl ?_
    refine aw_getf (v := .ref 41) dX11_colourCount_76 flX11_55_10 at_mod rfl ?_
    refine aw_iconst (v := 0) dX11_colourCount_79 (by decide) ?_
    refine aw_aload_n dX11_colourCount_80 rfl ?_
    refine aw_getf (v := .ref 41) dX11_colourCount_81 flX11_55_10 at_mod rfl ?_
    refine aw_iload_n dX11_colourCount_84 rfl ?_
    obtain ⟨g85, hE⟩ := fgd hE hF
    refine aw_iald (f := sr) dX11_colourCount_85 at_msorted (vp_in_iff.mpr g85) ?_
    obtain ⟨g86, hE⟩ := fgd hE hF
    refine aw_iast (f := sr) dX11_colourCount_86 at_msorted (vp_in_iff.mpr g86) ?_
    refine aw_eqh (h2 := HM mo mw mr ms mt mu dd wi hi gt sp ta li (upd sr (Int32.toNatClampNeg 0) (sr (Int32.toNatClampNeg v3))) co hb) up_msorted ?_
    refine aw_aload_n dX11_colourCount_87 rfl ?_
    refine aw_getf (v := .ref 41) dX11_colourCount_88 flX11_55_10 at_mod rfl ?_
    refine aw_iload_n dX11_colourCount_91 rfl ?_
    refine aw_iload dX11_colourCount_92 rfl ?_
    obtain ⟨g94, hE⟩ := fgd hE hF
    refine aw_iast (f := (upd sr (Int32.toNatClampNeg 0) (sr (Int32.toNatClampNeg v3)))) dX11_colourCount_94 at_msorted (vp_in_iff.mpr g94) ?_
    refine aw_eqh (h2 := HM mo mw mr ms mt mu dd wi hi gt sp ta li (upd (upd sr (Int32.toNatClampNeg 0) (sr (Int32.toNatClampNeg v3))) (Int32.toNatClampNeg v3) (sr (Int32.toNatClampNeg 0))) co hb) up_msorted ?_
    refine aw_aload_n dX11_colourCount_95 rfl ?_
    refine aw_iconst (v := 0) dX11_colourCount_96 (by decide) ?_
    refine aw_iload_n dX11_colourCount_97 rfl ?_
    refine aw_callV dX11_colourCount_98 at_mod cvX11_259 rfl (kF_X11_sift mo mw mr ms mt mu dd wi hi gt sp ta li (upd (upd sr (Int32.toNatClampNeg 0) (sr (Int32.toNatClampNeg v3))) (Int32.toNatClampNeg v3) (sr (Int32.toNatClampNeg 0))) co hb _  0 v3 (fon_ne hE hF)) rfl (Nat.le_of_ble_eq_true rfl) (by decide) (by decide) (by decide) (by decide) (fun _ _ _ hf => False.elim hf) (fun r98 h98 n98 hp98 => ?_)
    obtain ⟨z98, s98, e98, rfl, rfl, rfl⟩ := hp98
    replace hE := fon_ok e98 hE
    refine aw_iinc (v := (v3 + (-1))) (lv2 := [(3, _), (4, _), (0, _), (2, _)]) dX11_colourCount_101 rfl (incE (by decide)) (by decide) rfl ?_
    refine aw_goto (tgt := 63) dX11_colourCount_104 (by decide) ?_
    exact aw_lv _ (List.forall_mem_cons.mpr ⟨rfl, (List.forall_mem_cons.mpr ⟨rfl, (List.forall_mem_cons.mpr ⟨rfl, fun _ h => absurd h List.not_mem_nil⟩)⟩)⟩) (hk63 v2 (v3 + (-1)) s98 _ hE hF)
def F_X11_colourCount_43 (dd : A) (wi : A) (hi : A) (k43 : Int32 → Int32 → A → Out A Int32) (v2 : Int32) (v3 : Int32) (sr : A) : Out A Int32 := if v3 < 0 then (lp (fun _ _ _ => fno) (F_X11_colourCount_63 dd wi hi) FU v2 (v2 - 1) sr) else (fon (F_X11_sift v3 v2 sr) (fun z50 s50 => k43 v2 (v3 + (-1)) s50) (fun _ _ => fno))
set_option maxHeartbeats 1000000 in
set_option maxRecDepth 100000 in
theorem b_X11_colourCount_43 (mo : MO) (mw : MW) (mr : MR) (ms : Nat) (mt : A) (mu : A) (dd : A) (wi : A) (hi : A) (gt : A) (sp : A) (ta : A) (li : A) (co : A) (hb : aH) (n : Nat)  (k43 : Int32 → Int32 → A → Out A Int32) (hk43 : Q_X11_colourCount_43 mo mw mr ms mt mu dd wi hi gt sp ta li co hb n k43) : Q_X11_colourCount_43 mo mw mr ms mt mu dd wi hi gt sp ta li co hb n (F_X11_colourCount_43 dd wi hi k43) := by
  intro v2 v3 sr res hE hF
  unfold F_X11_colourCount_43 at hE
  refine aw_iload_n dX11_colourCount_43 rfl ?_
  refine aw_if_lt (tgt := 59) dX11_colourCount_44 (by decide) (fun c44 => ?_) (fun c44 => ?_)
  · replace hE := fit hE c44
    refine aw_iload_n dX11_colourCount_59 rfl ?_
    refine aw_iconst (v := 1) dX11_colourCount_60 (by decide) ?_
    refine aw_isub dX11_colourCount_61 ?_
    refine aw_istore_n (lv2 := [(3, _), (0, _), (2, _)]) dX11_colourCount_62 (by decide) rfl ?_
    exact aw_lv _ (List.forall_mem_cons.mpr ⟨rfl, (List.forall_mem_cons.mpr ⟨rfl, (List.forall_mem_cons.mpr ⟨rfl, fun _ h => absurd h List.not_mem_nil⟩)⟩)⟩) (lp_ind (Q_X11_colourCount_63 mo mw mr ms mt mu dd wi hi gt sp ta li co hb n) (fun _ _ _ res hq hF => (hF hq.symm).elim) (fun k hk => b_X11_colourCount_63 mo mw mr ms mt mu dd wi hi gt sp ta li co hb n   k hk) FU v2 (v2 - 1) sr _ hE hF)
  · replace hE := fif hE c44
    refine aw_aload_n dX11_colourCount_47 rfl ?_
    refine aw_iload_n dX11_colourCount_48 rfl ?_
    refine aw_iload_n dX11_colourCount_49 rfl ?_
    refine aw_callV dX11_colourCount_50 at_mod cvX11_259 rfl (kF_X11_sift mo mw mr ms mt mu dd wi hi gt sp ta li sr co hb _  v3 v2 (fon_ne hE hF)) rfl (Nat.le_of_ble_eq_true rfl) (by decide) (by decide) (by decide) (by decide) (fun _ _ _ hf => False.elim hf) (fun r50 h50 n50 hp50 => ?_)
    obtain ⟨z50, s50, e50, rfl, rfl, rfl⟩ := hp50
    replace hE := fon_ok e50 hE
    refine aw_iinc (v := (v3 + (-1))) (lv2 := [(3, _), (0, _), (2, _)]) dX11_colourCount_53 rfl (incE (by decide)) (by decide) rfl ?_
    refine aw_goto (tgt := 43) dX11_colourCount_56 (by decide) ?_
    exact aw_lv _ (List.forall_mem_cons.mpr ⟨rfl, (List.forall_mem_cons.mpr ⟨rfl, (List.forall_mem_cons.mpr ⟨rfl, fun _ h => absurd h List.not_mem_nil⟩)⟩)⟩) (hk43 v2 (v3 + (-1)) s50 _ hE hF)
def F_X11_colourCount_8 (dd : A) (wi : A) (hi : A) (k8 : Int32 → Int32 → Int32 → A → Out A Int32) (v1 : Int32) (v2 : Int32) (v3 : Int32) (sr : A) : Out A Int32 := if v2 ≤ v3 then (lp (fun _ _ _ => fno) (F_X11_colourCount_43 dd wi hi) FU v2 ((v2 / 2) - 1) sr) else (if inb ((4096 * v1) + v3) 16384 then (if inb v3 4096 then (k8 v1 v2 (v3 + 1) (upd sr (Int32.toNatClampNeg v3) (dd (Int32.toNatClampNeg ((4096 * v1) + v3))))) else fno) else fno)
set_option maxHeartbeats 1000000 in
set_option maxRecDepth 100000 in
theorem b_X11_colourCount_8 (mo : MO) (mw : MW) (mr : MR) (ms : Nat) (mt : A) (mu : A) (dd : A) (wi : A) (hi : A) (gt : A) (sp : A) (ta : A) (li : A) (co : A) (hb : aH) (n : Nat)  (k8 : Int32 → Int32 → Int32 → A → Out A Int32) (hk8 : Q_X11_colourCount_8 mo mw mr ms mt mu dd wi hi gt sp ta li co hb n k8) : Q_X11_colourCount_8 mo mw mr ms mt mu dd wi hi gt sp ta li co hb n (F_X11_colourCount_8 dd wi hi k8) := by
  intro v1 v2 v3 sr res hE hF
  unfold F_X11_colourCount_8 at hE
  refine aw_iload_n dX11_colourCount_8 rfl ?_
  refine aw_iload_n dX11_colourCount_9 rfl ?_
  refine aw_icmp_ge (tgt := 37) dX11_colourCount_10 (by decide) (fun c10 => ?_) (fun c10 => ?_)
  · replace hE := fit hE c10
    refine aw_iload_n dX11_colourCount_37 rfl ?_
    refine aw_iconst (v := 2) dX11_colourCount_38 (by decide) ?_
    refine aw_idiv dX11_colourCount_39 (by decide) ?_
    refine aw_iconst (v := 1) dX11_colourCount_40 (by decide) ?_
    refine aw_isub dX11_colourCount_41 ?_
    refine aw_istore_n (lv2 := [(3, _), (0, _), (1, _), (2, _)]) dX11_colourCount_42 (by decide) rfl ?_
    exact aw_lv _ (List.forall_mem_cons.mpr ⟨rfl, (List.forall_mem_cons.mpr ⟨rfl, (List.forall_mem_cons.mpr ⟨rfl, fun _ h => absurd h List.not_mem_nil⟩)⟩)⟩) (lp_ind (Q_X11_colourCount_43 mo mw mr ms mt mu dd wi hi gt sp ta li co hb n) (fun _ _ _ res hq hF => (hF hq.symm).elim) (fun k hk => b_X11_colourCount_43 mo mw mr ms mt mu dd wi hi gt sp ta li co hb n   k hk) FU v2 ((v2 / 2) - 1) sr _ hE hF)
  · replace hE := fif hE c10
    refine aw_aload_n dX11_colourCount_13 rfl ?_
    refine aw_getf (v := .ref 41) dX11_colourCount_14 flX11_55_10 at_mod rfl ?_
    refine aw_iload_n dX11_colourCount_17 rfl ?_
    refine aw_aload_n dX11_colourCount_18 rfl ?_
    refine aw_getf (v := .ref 34) dX11_colourCount_19 flX11_17_10 at_mod rfl ?_
    refine aw_sipush (v := 4096) dX11_colourCount_22 (by decide) ?_
    refine aw_iload_n dX11_colourCount_25 rfl ?_
    refine aw_imul dX11_colourCount_26 ?_
    refine aw_iload_n dX11_colourCount_27 rfl ?_
    refine aw_iadd dX11_colourCount_28 ?_
    obtain ⟨g29, hE⟩ := fgd hE hF
    refine aw_iald (f := dd) dX11_colourCount_29 at_mdots (vp_in_iff.mpr g29) ?_
    obtain ⟨g30, hE⟩ := fgd hE hF
    refine aw_iast (f := sr) dX11_colourCount_30 at_msorted (vp_in_iff.mpr g30) ?_
    refine aw_eqh (h2 := HM mo mw mr ms mt mu dd wi hi gt sp ta li (upd sr (Int32.toNatClampNeg v3) (dd (Int32.toNatClampNeg ((4096 * v1) + v3)))) co hb) up_msorted ?_
    refine aw_iinc (v := (v3 + 1)) (lv2 := [(3, _), (0, _), (1, _), (2, _)]) dX11_colourCount_31 rfl (incE (by decide)) (by decide) rfl ?_
    refine aw_goto (tgt := 8) dX11_colourCount_34 (by decide) ?_
    exact aw_lv _ (List.forall_mem_cons.mpr ⟨rfl, (List.forall_mem_cons.mpr ⟨rfl, (List.forall_mem_cons.mpr ⟨rfl, (List.forall_mem_cons.mpr ⟨rfl, fun _ h => absurd h List.not_mem_nil⟩)⟩)⟩)⟩) (hk8 v1 v2 (v3 + 1) (upd sr (Int32.toNatClampNeg v3) (dd (Int32.toNatClampNeg ((4096 * v1) + v3)))) _ hE hF)
def F_X11_colourCount (a1 : Int32) (dd : A) (wi : A) (hi : A) (sr : A) : Out A Int32 := fon (F_X11_many a1 wi hi) (fun z2 s2 => lp (fun _ _ _ _ => fno) (F_X11_colourCount_8 dd wi hi) FU a1 z2 (0 : Int32) sr) (fun _ _ => fno)
set_option maxHeartbeats 1000000 in
set_option maxRecDepth 100000 in
theorem kF_X11_colourCount (mo : MO) (mw : MW) (mr : MR) (ms : Nat) (mt : A) (mu : A) (dd : A) (wi : A) (hi : A) (gt : A) (sp : A) (ta : A) (li : A) (sr : A) (co : A) (hb : aH) (n : Nat)  (a1 : Int32) (hF : F_X11_colourCount a1 dd wi hi sr ≠ fno) : AM mX11_colourCount 2 [.ref 31, .int a1] (HM mo mw mr ms mt mu dd wi hi gt sp ta li sr co hb) n 0 0 0 0 (P_X11_colourCount mo mw mr ms mt mu dd wi hi gt sp ta li co hb n (F_X11_colourCount a1 dd wi hi sr)) (fun _ _ _ => False) := by
  generalize hE : F_X11_colourCount a1 dd wi hi sr = res at hF ⊢
  refine aw_of (by decide +kernel) rfl (Nat.le_of_ble_eq_true rfl) ?_
  unfold F_X11_colourCount at hE
  refine aw_aload_n dX11_colourCount_0 rfl ?_
  refine aw_iload_n dX11_colourCount_1 rfl ?_
  refine aw_callV dX11_colourCount_2 at_mod cvX11_256 rfl (kF_X11_many mo mw mr ms mt mu dd wi hi gt sp ta li sr co hb _  a1 (fon_ne hE hF)) rfl (Nat.le_of_ble_eq_true rfl) (by decide) (by decide) (by decide) (by decide) (fun _ _ _ hf => False.elim hf) (fun r2 h2 n2 hp2 => ?_)
  obtain ⟨z2, s2, e2, rfl, rfl, rfl⟩ := hp2
  replace hE := fon_ok e2 hE
  refine aw_istore_n (lv2 := [(2, _), (0, _), (1, _)]) dX11_colourCount_5 (by decide) rfl ?_
  refine aw_iconst (v := 0) dX11_colourCount_6 (by decide) ?_
  refine aw_istore_n (lv2 := [(3, _), (2, _), (0, _), (1, _)]) dX11_colourCount_7 (by decide) rfl ?_
  exact aw_lv _ (List.forall_mem_cons.mpr ⟨rfl, (List.forall_mem_cons.mpr ⟨rfl, (List.forall_mem_cons.mpr ⟨rfl, (List.forall_mem_cons.mpr ⟨rfl, fun _ h => absurd h List.not_mem_nil⟩)⟩)⟩)⟩) (lp_ind (Q_X11_colourCount_8 mo mw mr ms mt mu dd wi hi gt sp ta li co hb n) (fun _ _ _ _ res hq hF => (hF hq.symm).elim) (fun k hk => b_X11_colourCount_8 mo mw mr ms mt mu dd wi hi gt sp ta li co hb n   k hk) FU a1 z2 (0 : Int32) sr _ hE hF)
