def P_X11_readShort (mo : MO) (mw : MW) (ms : Nat) (mt : A) (mu : A) (dd : A) (wi : A) (hi : A) (gt : A) (sp : A) (ta : A) (li : A) (sr : A) (co : A) (hb : aH) (n : Nat) (res : Out MR Int32) : Option Value → aH → Nat → Prop := fun r1 h2 n2 => ∃ (a : Int32) (s : MR), res = fok a s ∧ r1 = some (.int a) ∧ h2 = HM mo mw s ms mt mu dd wi hi gt sp ta li sr co hb ∧ n = n2
def F_X11_readShort (mr : MR) : Out MR Int32 := fon (F_X11_want 2 mr) (fun z2 s2 => if isB z2 then (fok (z2 : Int32) s2) else fno) (fun _ _ => fno)
set_option maxHeartbeats 1000000 in
set_option maxRecDepth 100000 in
theorem kF_X11_readShort (mo : MO) (mw : MW) (mr : MR) (ms : Nat) (mt : A) (mu : A) (dd : A) (wi : A) (hi : A) (gt : A) (sp : A) (ta : A) (li : A) (sr : A) (co : A) (hb : aH) (n : Nat)   (hF : F_X11_readShort mr ≠ fno) : AM mX11_readShort 3 [.ref 31] (HM mo mw mr ms mt mu dd wi hi gt sp ta li sr co hb) n 0 0 0 0 (P_X11_readShort mo mw ms mt mu dd wi hi gt sp ta li sr co hb n (F_X11_readShort mr)) (fun _ _ _ => False) := by
  generalize hE : F_X11_readShort mr = res at hF ⊢
  refine aw_of (by decide +kernel) rfl (Nat.le_of_ble_eq_true rfl) ?_
  unfold F_X11_readShort at hE
  refine aw_aload_n dX11_readShort_0 rfl ?_
  refine aw_iconst (v := 2) dX11_readShort_1 (by decide) ?_
  refine aw_callV dX11_readShort_2 at_mod cvX11_103 rfl (kF_X11_want mo mw mr ms mt mu dd wi hi gt sp ta li sr co hb _  2 (fon_ne hE hF)) rfl (Nat.le_of_ble_eq_true rfl) (by decide) (by decide) (by decide) (by decide) (fun _ _ _ hf => False.elim hf) (fun r2 h2 n2 hp2 => ?_)
  obtain ⟨z2, s2, e2, rfl, rfl, rfl⟩ := hp2
  replace hE := fon_ok e2 hE
  obtain ⟨g5, hE⟩ := fgd hE hF
  exact aw_zret dX11_readShort_5 rfl (narB g5) (Nat.zero_le _) (Nat.zero_le _) (Nat.zero_le _) (Nat.zero_le _) ⟨_, _, hE.symm, rfl, rfl, rfl⟩
