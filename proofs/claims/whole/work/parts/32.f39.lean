def P_X11_canHold (mo : MO) (mw : MW) (mr : MR) (ms : Nat) (mt : A) (mu : A) (dd : A) (wi : A) (hi : A) (gt : A) (sp : A) (ta : A) (li : A) (co : A) (hb : aH) (n : Nat) (res : Out A Int32) : Option Value → aH → Nat → Prop := fun r1 h2 n2 => ∃ (a : Int32) (s : A), res = fok a s ∧ r1 = some (.int a) ∧ h2 = HM mo mw mr ms mt mu dd wi hi gt sp ta li s co hb ∧ n = n2
abbrev Q_X11_canHold_116 (mo : MO) (mw : MW) (mr : MR) (ms : Nat) (mt : A) (mu : A) (dd : A) (wi : A) (hi : A) (gt : A) (sp : A) (ta : A) (li : A) (co : A) (hb : aH) (n : Nat) (k : A → Out A Int32) : Prop := ∀ (sr : A) (res : Out A Int32), k sr = res → res ≠ fno → AW (fun _ _ => True) mX11_canHold (rmD 3 0 0) 0 0 (P_X11_canHold mo mw mr ms mt mu dd wi hi gt sp ta li co hb n res) (fun _ _ _ => False) 0 0 116 [] [] (HM mo mw mr ms mt mu dd wi hi gt sp ta li sr co hb) n
abbrev Q_X11_canHold_147 (mo : MO) (mw : MW) (mr : MR) (ms : Nat) (mt : A) (mu : A) (dd : A) (wi : A) (hi : A) (gt : A) (sp : A) (ta : A) (li : A) (co : A) (hb : aH) (n : Nat) (k : A → Out A Int32) : Prop := ∀ (sr : A) (res : Out A Int32), k sr = res → res ≠ fno → AW (fun _ _ => True) mX11_canHold (rmD 3 0 0) 0 0 (P_X11_canHold mo mw mr ms mt mu dd wi hi gt sp ta li co hb n res) (fun _ _ _ => False) 0 0 147 [] [] (HM mo mw mr ms mt mu dd wi hi gt sp ta li sr co hb) n
def F_X11_canHold_147 (dd : A) (wi : A) (hi : A)  (sr : A) : Out A Int32 := fok (0 : Int32) sr
set_option maxHeartbeats 1000000 in
set_option maxRecDepth 100000 in
theorem b_X11_canHold_147 (mo : MO) (mw : MW) (mr : MR) (ms : Nat) (mt : A) (mu : A) (dd : A) (wi : A) (hi : A) (gt : A) (sp : A) (ta : A) (li : A) (co : A) (hb : aH) (n : Nat)   : Q_X11_canHold_147 mo mw mr ms mt mu dd wi hi gt sp ta li co hb n (F_X11_canHold_147 dd wi hi) := by
  intro sr res hE hF
  unfold F_X11_canHold_147 at hE
  refine aw_iconst (v := 0) dX11_canHold_147 (by decide) ?_
  exact aw_zret dX11_canHold_148 rfl (narB (by decide)) (Nat.zero_le _) (Nat.zero_le _) (Nat.zero_le _) (Nat.zero_le _) ⟨_, _, hE.symm, rfl, rfl, rfl⟩
def F_X11_canHold_116 (dd : A) (wi : A) (hi : A)  (sr : A) : Out A Int32 := fok (0 : Int32) sr
set_option maxHeartbeats 1000000 in
set_option maxRecDepth 100000 in
theorem b_X11_canHold_116 (mo : MO) (mw : MW) (mr : MR) (ms : Nat) (mt : A) (mu : A) (dd : A) (wi : A) (hi : A) (gt : A) (sp : A) (ta : A) (li : A) (co : A) (hb : aH) (n : Nat)   : Q_X11_canHold_116 mo mw mr ms mt mu dd wi hi gt sp ta li co hb n (F_X11_canHold_116 dd wi hi) := by
  intro sr res hE hF
  unfold F_X11_canHold_116 at hE
  refine aw_iconst (v := 0) dX11_canHold_116 (by decide) ?_
  exact aw_zret dX11_canHold_117 rfl (narB (by decide)) (Nat.zero_le _) (Nat.zero_le _) (Nat.zero_le _) (Nat.zero_le _) ⟨_, _, hE.symm, rfl, rfl, rfl⟩
def F_X11_canHold (a1 : Int32) (a2 : Int32) (dd : A) (wi : A) (hi : A) (sr : A) : Out A Int32 := if a2 = 0 then (fok (1 : Int32) sr) else (if a2 = 1 then (fon (F_X11_isPlain a1 dd wi hi) (fun z92 s92 => if isB z92 then (fok (z92 : Int32) sr) else fno) (fun _ _ => fno)) else (if a2 = 2 then (fon (F_X11_isOpaque a1 dd wi hi) (fun z98 s98 => if z98 = 0 then (F_X11_canHold_116 dd wi hi sr) else (fon (F_X11_isGrayRaster a1 dd wi hi) (fun z106 s106 => if z106 = 0 then (F_X11_canHold_116 dd wi hi sr) else (fok (1 : Int32) sr)) (fun _ _ => fno))) (fun _ _ => fno)) else (if a2 = 3 then (fon (F_X11_isOpaque a1 dd wi hi) (fun z120 s120 => if isB z120 then (fok (z120 : Int32) sr) else fno) (fun _ _ => fno)) else (if a2 = 4 then (fon (F_X11_isPlain a1 dd wi hi) (fun z92 s92 => if isB z92 then (fok (z92 : Int32) sr) else fno) (fun _ _ => fno)) else (if a2 = 5 then (fon (F_X11_isOpaque a1 dd wi hi) (fun z98 s98 => if z98 = 0 then (F_X11_canHold_116 dd wi hi sr) else (fon (F_X11_isGrayRaster a1 dd wi hi) (fun z106 s106 => if z106 = 0 then (F_X11_canHold_116 dd wi hi sr) else (fok (1 : Int32) sr)) (fun _ _ => fno))) (fun _ _ => fno)) else (if a2 = 6 then (fon (F_X11_isOpaque a1 dd wi hi) (fun z120 s120 => if isB z120 then (fok (z120 : Int32) sr) else fno) (fun _ _ => fno)) else (if a2 = 7 then (fon (F_X11_isOpaque a1 dd wi hi) (fun z120 s120 => if isB z120 then (fok (z120 : Int32) sr) else fno) (fun _ _ => fno)) else (if a2 = 8 then (fon (F_X11_isOpaque a1 dd wi hi) (fun z126 s126 => if z126 = 0 then (F_X11_canHold_147 dd wi hi sr) else (fon (F_X11_colourCount a1 dd wi hi sr) (fun z134 s134 => if 256 < z134 then (F_X11_canHold_147 dd wi hi s134) else (fok (1 : Int32) s134)) (fun _ _ => fno))) (fun _ _ => fno)) else (if a2 = 9 then (fon (F_X11_isOpaque a1 dd wi hi) (fun z126 s126 => if z126 = 0 then (F_X11_canHold_147 dd wi hi sr) else (fon (F_X11_colourCount a1 dd wi hi sr) (fun z134 s134 => if 256 < z134 then (F_X11_canHold_147 dd wi hi s134) else (fok (1 : Int32) s134)) (fun _ _ => fno))) (fun _ _ => fno)) else (if a2 = 10 then (fok (1 : Int32) sr) else (if a2 = 11 then (fok (1 : Int32) sr) else (if a2 = 12 then (fon (F_X11_isOpaque a1 dd wi hi) (fun z98 s98 => if z98 = 0 then (F_X11_canHold_116 dd wi hi sr) else (fon (F_X11_isGrayRaster a1 dd wi hi) (fun z106 s106 => if z106 = 0 then (F_X11_canHold_116 dd wi hi sr) else (fok (1 : Int32) sr)) (fun _ _ => fno))) (fun _ _ => fno)) else (if a2 = 13 then (fon (F_X11_isOpaque a1 dd wi hi) (fun z98 s98 => if z98 = 0 then (F_X11_canHold_116 dd wi hi sr) else (fon (F_X11_isGrayRaster a1 dd wi hi) (fun z106 s106 => if z106 = 0 then (F_X11_canHold_116 dd wi hi sr) else (fok (1 : Int32) sr)) (fun _ _ => fno))) (fun _ _ => fno)) else (if a2 = 14 then (fon (F_X11_colourCount a1 dd wi hi sr) (fun z151 s151 => if 256 < z151 then (fok (0 : Int32) s151) else (fok (1 : Int32) s151)) (fun _ _ => fno)) else (if a2 = 15 then (fon (F_X11_colourCount a1 dd wi hi sr) (fun z151 s151 => if 256 < z151 then (fok (0 : Int32) s151) else (fok (1 : Int32) s151)) (fun _ _ => fno)) else (if a2 = 16 then (fon (F_X11_isOpaque a1 dd wi hi) (fun z120 s120 => if isB z120 then (fok (z120 : Int32) sr) else fno) (fun _ _ => fno)) else (if a2 = 17 then (fon (F_X11_isOpaque a1 dd wi hi) (fun z126 s126 => if z126 = 0 then (F_X11_canHold_147 dd wi hi sr) else (fon (F_X11_colourCount a1 dd wi hi sr) (fun z134 s134 => if 256 < z134 then (F_X11_canHold_147 dd wi hi s134) else (fok (1 : Int32) s134)) (fun _ _ => fno))) (fun _ _ => fno)) else (fok (0 : Int32) sr))))))))))))))))))
set_option maxHeartbeats 1000000 in
set_option maxRecDepth 100000 in
theorem kF_X11_canHold (mo : MO) (mw : MW) (mr : MR) (ms : Nat) (mt : A) (mu : A) (dd : A) (wi : A) (hi : A) (gt : A) (sp : A) (ta : A) (li : A) (sr : A) (co : A) (hb : aH) (n : Nat)  (a1 : Int32) (a2 : Int32) (hF : F_X11_canHold a1 a2 dd wi hi sr ≠ fno) : AM mX11_canHold 3 [.ref 31, .int a1, .int a2] (HM mo mw mr ms mt mu dd wi hi gt sp ta li sr co hb) n 0 0 0 0 (P_X11_canHold mo mw mr ms mt mu dd wi hi gt sp ta li co hb n (F_X11_canHold a1 a2 dd wi hi sr)) (fun _ _ _ => False) := by
  generalize hE : F_X11_canHold a1 a2 dd wi hi sr = res at hF ⊢
  refine aw_of (by decide +kernel) rfl (Nat.le_of_ble_eq_true rfl) ?_
  unfold F_X11_canHold at hE
  refine aw_iload_n dX11_canHold_0 rfl ?_
  by_cases e1_0 : a2 = 0
  · replace hE := fit hE e1_0
    refine aw_tableIn (tgt := 88) dX11_canHold_1 (by rw [e1_0]; decide) (by rw [e1_0]; decide) (off := 87) (by rw [e1_0]; decide) (by decide) ?_
    refine aw_iconst (v := 1) dX11_canHold_88 (by decide) ?_
    exact aw_zret dX11_canHold_89 rfl (narB (by decide)) (Nat.zero_le _) (Nat.zero_le _) (Nat.zero_le _) (Nat.zero_le _) ⟨_, _, hE.symm, rfl, rfl, rfl⟩
  replace hE := fif hE e1_0
  by_cases e1_1 : a2 = 1
  · replace hE := fit hE e1_1
    refine aw_tableIn (tgt := 90) dX11_canHold_1 (by rw [e1_1]; decide) (by rw [e1_1]; decide) (off := 89) (by rw [e1_1]; decide) (by decide) ?_
    refine aw_aload_n dX11_canHold_90 rfl ?_
    refine aw_iload_n dX11_canHold_91 rfl ?_
    refine aw_callV dX11_canHold_92 at_mod cvX11_268 rfl (kF_X11_isPlain mo mw mr ms mt mu dd wi hi gt sp ta li sr co hb _  a1 (fon_ne hE hF)) rfl (Nat.le_of_ble_eq_true rfl) (by decide) (by decide) (by decide) (by decide) (fun _ _ _ hf => False.elim hf) (fun r92 h92 n92 hp92 => ?_)
    obtain ⟨z92, s92, e92, rfl, rfl, rfl⟩ := hp92
    replace hE := fon_ok e92 hE
    obtain ⟨g95, hE⟩ := fgd hE hF
    exact aw_zret dX11_canHold_95 rfl (narB g95) (Nat.zero_le _) (Nat.zero_le _) (Nat.zero_le _) (Nat.zero_le _) ⟨_, _, hE.symm, rfl, rfl, rfl⟩
  replace hE := fif hE e1_1
  by_cases e1_2 : a2 = 2
  · replace hE := fit hE e1_2
    refine aw_tableIn (tgt := 96) dX11_canHold_1 (by rw [e1_2]; decide) (by rw [e1_2]; decide) (off := 95) (by rw [e1_2]; decide) (by decide) ?_
    refine aw_aload_n dX11_canHold_96 rfl ?_
    refine aw_iload_n dX11_canHold_97 rfl ?_
    refine aw_callV dX11_canHold_98 at_mod cvX11_271 rfl (kF_X11_isOpaque mo mw mr ms mt mu dd wi hi gt sp ta li sr co hb _  a1 (fon_ne hE hF)) rfl (Nat.le_of_ble_eq_true rfl) (by decide) (by decide) (by decide) (by decide) (fun _ _ _ hf => False.elim hf) (fun r98 h98 n98 hp98 => ?_)
    obtain ⟨z98, s98, e98, rfl, rfl, rfl⟩ := hp98
    replace hE := fon_ok e98 hE
    refine aw_if_eq (tgt := 116) dX11_canHold_101 (by decide) (fun c101 => ?_) (fun c101 => ?_)
    · replace hE := fit hE c101
      exact aw_lv _ (fun _ h => absurd h List.not_mem_nil) (b_X11_canHold_116 mo mw mr ms mt mu dd wi hi gt sp ta li co hb n   sr _ hE hF)
    · replace hE := fif hE c101
      refine aw_aload_n dX11_canHold_104 rfl ?_
      refine aw_iload_n dX11_canHold_105 rfl ?_
      refine aw_callV dX11_canHold_106 at_mod cvX11_274 rfl (kF_X11_isGrayRaster mo mw mr ms mt mu dd wi hi gt sp ta li sr co hb _  a1 (fon_ne hE hF)) rfl (Nat.le_of_ble_eq_true rfl) (by decide) (by decide) (by decide) (by decide) (fun _ _ _ hf => False.elim hf) (fun r106 h106 n106 hp106 => ?_)
      obtain ⟨z106, s106, e106, rfl, rfl, rfl⟩ := hp106
      replace hE := fon_ok e106 hE
      refine aw_if_eq (tgt := 116) dX11_canHold_109 (by decide) (fun c109 => ?_) (fun c109 => ?_)
      · replace hE := fit hE c109
        exact aw_lv _ (fun _ h => absurd h List.not_mem_nil) (b_X11_canHold_116 mo mw mr ms mt mu dd wi hi gt sp ta li co hb n   sr _ hE hF)
      · replace hE := fif hE c109
        refine aw_iconst (v := 1) dX11_canHold_112 (by decide) ?_
        refine aw_goto (tgt := 117) dX11_canHold_113 (by decide) ?_
        exact aw_zret dX11_canHold_117 rfl (narB (by decide)) (Nat.zero_le _) (Nat.zero_le _) (Nat.zero_le _) (Nat.zero_le _) ⟨_, _, hE.symm, rfl, rfl, rfl⟩
  replace hE := fif hE e1_2
  by_cases e1_3 : a2 = 3
  · replace hE := fit hE e1_3
    refine aw_tableIn (tgt := 118) dX11_canHold_1 (by rw [e1_3]; decide) (by rw [e1_3]; decide) (off := 117) (by rw [e1_3]; decide) (by decide) ?_
    refine aw_aload_n dX11_canHold_118 rfl ?_
    refine aw_iload_n dX11_canHold_119 rfl ?_
    refine aw_callV dX11_canHold_120 at_mod cvX11_271 rfl (kF_X11_isOpaque mo mw mr ms mt mu dd wi hi gt sp ta li sr co hb _  a1 (fon_ne hE hF)) rfl (Nat.le_of_ble_eq_true rfl) (by decide) (by decide) (by decide) (by decide) (fun _ _ _ hf => False.elim hf) (fun r120 h120 n120 hp120 => ?_)
    obtain ⟨z120, s120, e120, rfl, rfl, rfl⟩ := hp120
    replace hE := fon_ok e120 hE
    obtain ⟨g123, hE⟩ := fgd hE hF
    exact aw_zret dX11_canHold_123 rfl (narB g123) (Nat.zero_le _) (Nat.zero_le _) (Nat.zero_le _) (Nat.zero_le _) ⟨_, _, hE.symm, rfl, rfl, rfl⟩
  replace hE := fif hE e1_3
  by_cases e1_4 : a2 = 4
  · replace hE := fit hE e1_4
    refine aw_tableIn (tgt := 90) dX11_canHold_1 (by rw [e1_4]; decide) (by rw [e1_4]; decide) (off := 89) (by rw [e1_4]; decide) (by decide) ?_
    refine aw_aload_n dX11_canHold_90 rfl ?_
    refine aw_iload_n dX11_canHold_91 rfl ?_
    refine aw_callV dX11_canHold_92 at_mod cvX11_268 rfl (kF_X11_isPlain mo mw mr ms mt mu dd wi hi gt sp ta li sr co hb _  a1 (fon_ne hE hF)) rfl (Nat.le_of_ble_eq_true rfl) (by decide) (by decide) (by decide) (by decide) (fun _ _ _ hf => False.elim hf) (fun r92 h92 n92 hp92 => ?_)
    obtain ⟨z92, s92, e92, rfl, rfl, rfl⟩ := hp92
    replace hE := fon_ok e92 hE
    obtain ⟨g95, hE⟩ := fgd hE hF
    exact aw_zret dX11_canHold_95 rfl (narB g95) (Nat.zero_le _) (Nat.zero_le _) (Nat.zero_le _) (Nat.zero_le _) ⟨_, _, hE.symm, rfl, rfl, rfl⟩
  replace hE := fif hE e1_4
  by_cases e1_5 : a2 = 5
  · replace hE := fit hE e1_5
    refine aw_tableIn (tgt := 96) dX11_canHold_1 (by rw [e1_5]; decide) (by rw [e1_5]; decide) (off := 95) (by rw [e1_5]; decide) (by decide) ?_
    refine aw_aload_n dX11_canHold_96 rfl ?_
    refine aw_iload_n dX11_canHold_97 rfl ?_
    refine aw_callV dX11_canHold_98 at_mod cvX11_271 rfl (kF_X11_isOpaque mo mw mr ms mt mu dd wi hi gt sp ta li sr co hb _  a1 (fon_ne hE hF)) rfl (Nat.le_of_ble_eq_true rfl) (by decide) (by decide) (by decide) (by decide) (fun _ _ _ hf => False.elim hf) (fun r98 h98 n98 hp98 => ?_)
    obtain ⟨z98, s98, e98, rfl, rfl, rfl⟩ := hp98
    replace hE := fon_ok e98 hE
    refine aw_if_eq (tgt := 116) dX11_canHold_101 (by decide) (fun c101 => ?_) (fun c101 => ?_)
    · replace hE := fit hE c101
      exact aw_lv _ (fun _ h => absurd h List.not_mem_nil) (b_X11_canHold_116 mo mw mr ms mt mu dd wi hi gt sp ta li co hb n   sr _ hE hF)
    · replace hE := fif hE c101
      refine aw_aload_n dX11_canHold_104 rfl ?_
      refine aw_iload_n dX11_canHold_105 rfl ?_
      refine aw_callV dX11_canHold_106 at_mod cvX11_274 rfl (kF_X11_isGrayRaster mo mw mr ms mt mu dd wi hi gt sp ta li sr co hb _  a1 (fon_ne hE hF)) rfl (Nat.le_of_ble_eq_true rfl) (by decide) (by decide) (by decide) (by decide) (fun _ _ _ hf => False.elim hf) (fun r106 h106 n106 hp106 => ?_)
      obtain ⟨z106, s106, e106, rfl, rfl, rfl⟩ := hp106
      replace hE := fon_ok e106 hE
      refine aw_if_eq (tgt := 116) dX11_canHold_109 (by decide) (fun c109 => ?_) (fun c109 => ?_)
      · replace hE := fit hE c109
        exact aw_lv _ (fun _ h => absurd h List.not_mem_nil) (b_X11_canHold_116 mo mw mr ms mt mu dd wi hi gt sp ta li co hb n   sr _ hE hF)
      · replace hE := fif hE c109
        refine aw_iconst (v := 1) dX11_canHold_112 (by decide) ?_
        refine aw_goto (tgt := 117) dX11_canHold_113 (by decide) ?_
        exact aw_zret dX11_canHold_117 rfl (narB (by decide)) (Nat.zero_le _) (Nat.zero_le _) (Nat.zero_le _) (Nat.zero_le _) ⟨_, _, hE.symm, rfl, rfl, rfl⟩
  replace hE := fif hE e1_5
  by_cases e1_6 : a2 = 6
  · replace hE := fit hE e1_6
    refine aw_tableIn (tgt := 118) dX11_canHold_1 (by rw [e1_6]; decide) (by rw [e1_6]; decide) (off := 117) (by rw [e1_6]; decide) (by decide) ?_
    refine aw_aload_n dX11_canHold_118 rfl ?_
    refine aw_iload_n dX11_canHold_119 rfl ?_
    refine aw_callV dX11_canHold_120 at_mod cvX11_271 rfl (kF_X11_isOpaque mo mw mr ms mt mu dd wi hi gt sp ta li sr co hb _  a1 (fon_ne hE hF)) rfl (Nat.le_of_ble_eq_true rfl) (by decide) (by decide) (by decide) (by decide) (fun _ _ _ hf => False.elim hf) (fun r120 h120 n120 hp120 => ?_)
    obtain ⟨z120, s120, e120, rfl, rfl, rfl⟩ := hp120
    replace hE := fon_ok e120 hE
    obtain ⟨g123, hE⟩ := fgd hE hF
    exact aw_zret dX11_canHold_123 rfl (narB g123) (Nat.zero_le _) (Nat.zero_le _) (Nat.zero_le _) (Nat.zero_le _) ⟨_, _, hE.symm, rfl, rfl, rfl⟩
  replace hE := fif hE e1_6
  by_cases e1_7 : a2 = 7
  · replace hE := fit hE e1_7
    refine aw_tableIn (tgt := 118) dX11_canHold_1 (by rw [e1_7]; decide) (by rw [e1_7]; decide) (off := 117) (by rw [e1_7]; decide) (by decide) ?_
    refine aw_aload_n dX11_canHold_118 rfl ?_
    refine aw_iload_n dX11_canHold_119 rfl ?_
    refine aw_callV dX11_canHold_120 at_mod cvX11_271 rfl (kF_X11_isOpaque mo mw mr ms mt mu dd wi hi gt sp ta li sr co hb _  a1 (fon_ne hE hF)) rfl (Nat.le_of_ble_eq_true rfl) (by decide) (by decide) (by decide) (by decide) (fun _ _ _ hf => False.elim hf) (fun r120 h120 n120 hp120 => ?_)
    obtain ⟨z120, s120, e120, rfl, rfl, rfl⟩ := hp120
    replace hE := fon_ok e120 hE
    obtain ⟨g123, hE⟩ := fgd hE hF
    exact aw_zret dX11_canHold_123 rfl (narB g123) (Nat.zero_le _) (Nat.zero_le _) (Nat.zero_le _) (Nat.zero_le _) ⟨_, _, hE.symm, rfl, rfl, rfl⟩
  replace hE := fif hE e1_7
  by_cases e1_8 : a2 = 8
  · replace hE := fit hE e1_8
    refine aw_tableIn (tgt := 124) dX11_canHold_1 (by rw [e1_8]; decide) (by rw [e1_8]; decide) (off := 123) (by rw [e1_8]; decide) (by decide) ?_
    refine aw_aload_n dX11_canHold_124 rfl ?_
    refine aw_iload_n dX11_canHold_125 rfl ?_
    refine aw_callV dX11_canHold_126 at_mod cvX11_271 rfl (kF_X11_isOpaque mo mw mr ms mt mu dd wi hi gt sp ta li sr co hb _  a1 (fon_ne hE hF)) rfl (Nat.le_of_ble_eq_true rfl) (by decide) (by decide) (by decide) (by decide) (fun _ _ _ hf => False.elim hf) (fun r126 h126 n126 hp126 => ?_)
    obtain ⟨z126, s126, e126, rfl, rfl, rfl⟩ := hp126
    replace hE := fon_ok e126 hE
    refine aw_if_eq (tgt := 147) dX11_canHold_129 (by decide) (fun c129 => ?_) (fun c129 => ?_)
    · replace hE := fit hE c129
      exact aw_lv _ (fun _ h => absurd h List.not_mem_nil) (b_X11_canHold_147 mo mw mr ms mt mu dd wi hi gt sp ta li co hb n   sr _ hE hF)
    · replace hE := fif hE c129
      refine aw_aload_n dX11_canHold_132 rfl ?_
      refine aw_iload_n dX11_canHold_133 rfl ?_
      refine aw_callV dX11_canHold_134 at_mod cvX11_277 rfl (kF_X11_colourCount mo mw mr ms mt mu dd wi hi gt sp ta li sr co hb _  a1 (fon_ne hE hF)) rfl (Nat.le_of_ble_eq_true rfl) (by decide) (by decide) (by decide) (by decide) (fun _ _ _ hf => False.elim hf) (fun r134 h134 n134 hp134 => ?_)
      obtain ⟨z134, s134, e134, rfl, rfl, rfl⟩ := hp134
      replace hE := fon_ok e134 hE
      refine aw_sipush (v := 256) dX11_canHold_137 (by decide) ?_
      refine aw_icmp_gt (tgt := 147) dX11_canHold_140 (by decide) (fun c140 => ?_) (fun c140 => ?_)
      · replace hE := fit hE c140
        exact aw_lv _ (fun _ h => absurd h List.not_mem_nil) (b_X11_canHold_147 mo mw mr ms mt mu dd wi hi gt sp ta li co hb n   s134 _ hE hF)
      · replace hE := fif hE c140
        refine aw_iconst (v := 1) dX11_canHold_143 (by decide) ?_
        refine aw_goto (tgt := 148) dX11_canHold_144 (by decide) ?_
        exact aw_zret dX11_canHold_148 rfl (narB (by decide)) (Nat.zero_le _) (Nat.zero_le _) (Nat.zero_le _) (Nat.zero_le _) ⟨_, _, hE.symm, rfl, rfl, rfl⟩
  replace hE := fif hE e1_8
  by_cases e1_9 : a2 = 9
  · replace hE := fit hE e1_9
    refine aw_tableIn (tgt := 124) dX11_canHold_1 (by rw [e1_9]; decide) (by rw [e1_9]; decide) (off := 123) (by rw [e1_9]; decide) (by decide) ?_
    refine aw_aload_n dX11_canHold_124 rfl ?_
    refine aw_iload_n dX11_canHold_125 rfl ?_
    refine aw_callV dX11_canHold_126 at_mod cvX11_271 rfl (kF_X11_isOpaque mo mw mr ms mt mu dd wi hi gt sp ta li sr co hb _  a1 (fon_ne hE hF)) rfl (Nat.le_of_ble_eq_true rfl) (by decide) (by decide) (by decide) (by decide) (fun _ _ _ hf => False.elim hf) (fun r126 h126 n126 hp126 => ?_)
    obtain ⟨z126, s126, e126, rfl, rfl, rfl⟩ := hp126
    replace hE := fon_ok e126 hE
    refine aw_if_eq (tgt := 147) dX11_canHold_129 (by decide) (fun c129 => ?_) (fun c129 => ?_)
    · replace hE := fit hE c129
      exact aw_lv _ (fun _ h => absurd h List.not_mem_nil) (b_X11_canHold_147 mo mw mr ms mt mu dd wi hi gt sp ta li co hb n   sr _ hE hF)
    · replace hE := fif hE c129
      refine aw_aload_n dX11_canHold_132 rfl ?_
      refine aw_iload_n dX11_canHold_133 rfl ?_
      refine aw_callV dX11_canHold_134 at_mod cvX11_277 rfl (kF_X11_colourCount mo mw mr ms mt mu dd wi hi gt sp ta li sr co hb _  a1 (fon_ne hE hF)) rfl (Nat.le_of_ble_eq_true rfl) (by decide) (by decide) (by decide) (by decide) (fun _ _ _ hf => False.elim hf) (fun r134 h134 n134 hp134 => ?_)
      obtain ⟨z134, s134, e134, rfl, rfl, rfl⟩ := hp134
      replace hE := fon_ok e134 hE
      refine aw_sipush (v := 256) dX11_canHold_137 (by decide) ?_
      refine aw_icmp_gt (tgt := 147) dX11_canHold_140 (by decide) (fun c140 => ?_) (fun c140 => ?_)
      · replace hE := fit hE c140
        exact aw_lv _ (fun _ h => absurd h List.not_mem_nil) (b_X11_canHold_147 mo mw mr ms mt mu dd wi hi gt sp ta li co hb n   s134 _ hE hF)
      · replace hE := fif hE c140
        refine aw_iconst (v := 1) dX11_canHold_143 (by decide) ?_
        refine aw_goto (tgt := 148) dX11_canHold_144 (by decide) ?_
        exact aw_zret dX11_canHold_148 rfl (narB (by decide)) (Nat.zero_le _) (Nat.zero_le _) (Nat.zero_le _) (Nat.zero_le _) ⟨_, _, hE.symm, rfl, rfl, rfl⟩
  replace hE := fif hE e1_9
  by_cases e1_10 : a2 = 10
  · replace hE := fit hE e1_10
    refine aw_tableIn (tgt := 88) dX11_canHold_1 (by rw [e1_10]; decide) (by rw [e1_10]; decide) (off := 87) (by rw [e1_10]; decide) (by decide) ?_
    refine aw_iconst (v := 1) dX11_canHold_88 (by decide) ?_
    exact aw_zret dX11_canHold_89 rfl (narB (by decide)) (Nat.zero_le _) (Nat.zero_le _) (Nat.zero_le _) (Nat.zero_le _) ⟨_, _, hE.symm, rfl, rfl, rfl⟩
  replace hE := fif hE e1_10
  by_cases e1_11 : a2 = 11
  · replace hE := fit hE e1_11
    refine aw_tableIn (tgt := 88) dX11_canHold_1 (by rw [e1_11]; decide) (by rw [e1_11]; decide) (off := 87) (by rw [e1_11]; decide) (by decide) ?_
    refine aw_iconst (v := 1) dX11_canHold_88 (by decide) ?_
    exact aw_zret dX11_canHold_89 rfl (narB (by decide)) (Nat.zero_le _) (Nat.zero_le _) (Nat.zero_le _) (Nat.zero_le _) ⟨_, _, hE.symm, rfl, rfl, rfl⟩
  replace hE := fif hE e1_11
  by_cases e1_12 : a2 = 12
  · replace hE := fit hE e1_12
    refine aw_tableIn (tgt := 96) dX11_canHold_1 (by rw [e1_12]; decide) (by rw [e1_12]; decide) (off := 95) (by rw [e1_12]; decide) (by decide) ?_
    refine aw_aload_n dX11_canHold_96 rfl ?_
    refine aw_iload_n dX11_canHold_97 rfl ?_
    refine aw_callV dX11_canHold_98 at_mod cvX11_271 rfl (kF_X11_isOpaque mo mw mr ms mt mu dd wi hi gt sp ta li sr co hb _  a1 (fon_ne hE hF)) rfl (Nat.le_of_ble_eq_true rfl) (by decide) (by decide) (by decide) (by decide) (fun _ _ _ hf => False.elim hf) (fun r98 h98 n98 hp98 => ?_)
    obtain ⟨z98, s98, e98, rfl, rfl, rfl⟩ := hp98
    replace hE := fon_ok e98 hE
    refine aw_if_eq (tgt := 116) dX11_canHold_101 (by decide) (fun c101 => ?_) (fun c101 => ?_)
    · replace hE := fit hE c101
      exact aw_lv _ (fun _ h => absurd h List.not_mem_nil) (b_X11_canHold_116 mo mw mr ms mt mu dd wi hi gt sp ta li co hb n   sr _ hE hF)
    · replace hE := fif hE c101
      refine aw_aload_n dX11_canHold_104 rfl ?_
      refine aw_iload_n dX11_canHold_105 rfl ?_
      refine aw_callV dX11_canHold_106 at_mod cvX11_274 rfl (kF_X11_isGrayRaster mo mw mr ms mt mu dd wi hi gt sp ta li sr co hb _  a1 (fon_ne hE hF)) rfl (Nat.le_of_ble_eq_true rfl) (by decide) (by decide) (by decide) (by decide) (fun _ _ _ hf => False.elim hf) (fun r106 h106 n106 hp106 => ?_)
      obtain ⟨z106, s106, e106, rfl, rfl, rfl⟩ := hp106
      replace hE := fon_ok e106 hE
      refine aw_if_eq (tgt := 116) dX11_canHold_109 (by decide) (fun c109 => ?_) (fun c109 => ?_)
      · replace hE := fit hE c109
        exact aw_lv _ (fun _ h => absurd h List.not_mem_nil) (b_X11_canHold_116 mo mw mr ms mt mu dd wi hi gt sp ta li co hb n   sr _ hE hF)
      · replace hE := fif hE c109
        refine aw_iconst (v := 1) dX11_canHold_112 (by decide) ?_
        refine aw_goto (tgt := 117) dX11_canHold_113 (by decide) ?_
        exact aw_zret dX11_canHold_117 rfl (narB (by decide)) (Nat.zero_le _) (Nat.zero_le _) (Nat.zero_le _) (Nat.zero_le _) ⟨_, _, hE.symm, rfl, rfl, rfl⟩
  replace hE := fif hE e1_12
  by_cases e1_13 : a2 = 13
  · replace hE := fit hE e1_13
    refine aw_tableIn (tgt := 96) dX11_canHold_1 (by rw [e1_13]; decide) (by rw [e1_13]; decide) (off := 95) (by rw [e1_13]; decide) (by decide) ?_
    refine aw_aload_n dX11_canHold_96 rfl ?_
    refine aw_iload_n dX11_canHold_97 rfl ?_
    refine aw_callV dX11_canHold_98 at_mod cvX11_271 rfl (kF_X11_isOpaque mo mw mr ms mt mu dd wi hi gt sp ta li sr co hb _  a1 (fon_ne hE hF)) rfl (Nat.le_of_ble_eq_true rfl) (by decide) (by decide) (by decide) (by decide) (fun _ _ _ hf => False.elim hf) (fun r98 h98 n98 hp98 => ?_)
    obtain ⟨z98, s98, e98, rfl, rfl, rfl⟩ := hp98
    replace hE := fon_ok e98 hE
    refine aw_if_eq (tgt := 116) dX11_canHold_101 (by decide) (fun c101 => ?_) (fun c101 => ?_)
    · replace hE := fit hE c101
      exact aw_lv _ (fun _ h => absurd h List.not_mem_nil) (b_X11_canHold_116 mo mw mr ms mt mu dd wi hi gt sp ta li co hb n   sr _ hE hF)
    · replace hE := fif hE c101
      refine aw_aload_n dX11_canHold_104 rfl ?_
      refine aw_iload_n dX11_canHold_105 rfl ?_
      refine aw_callV dX11_canHold_106 at_mod cvX11_274 rfl (kF_X11_isGrayRaster mo mw mr ms mt mu dd wi hi gt sp ta li sr co hb _  a1 (fon_ne hE hF)) rfl (Nat.le_of_ble_eq_true rfl) (by decide) (by decide) (by decide) (by decide) (fun _ _ _ hf => False.elim hf) (fun r106 h106 n106 hp106 => ?_)
      obtain ⟨z106, s106, e106, rfl, rfl, rfl⟩ := hp106
      replace hE := fon_ok e106 hE
      refine aw_if_eq (tgt := 116) dX11_canHold_109 (by decide) (fun c109 => ?_) (fun c109 => ?_)
      · replace hE := fit hE c109
        exact aw_lv _ (fun _ h => absurd h List.not_mem_nil) (b_X11_canHold_116 mo mw mr ms mt mu dd wi hi gt sp ta li co hb n   sr _ hE hF)
      · replace hE := fif hE c109
        refine aw_iconst (v := 1) dX11_canHold_112 (by decide) ?_
        refine aw_goto (tgt := 117) dX11_canHold_113 (by decide) ?_
        exact aw_zret dX11_canHold_117 rfl (narB (by decide)) (Nat.zero_le _) (Nat.zero_le _) (Nat.zero_le _) (Nat.zero_le _) ⟨_, _, hE.symm, rfl, rfl, rfl⟩
  replace hE := fif hE e1_13
  by_cases e1_14 : a2 = 14
  · replace hE := fit hE e1_14
    refine aw_tableIn (tgt := 149) dX11_canHold_1 (by rw [e1_14]; decide) (by rw [e1_14]; decide) (off := 148) (by rw [e1_14]; decide) (by decide) ?_
    refine aw_aload_n dX11_canHold_149 rfl ?_
    refine aw_iload_n dX11_canHold_150 rfl ?_
    refine aw_callV dX11_canHold_151 at_mod cvX11_277 rfl (kF_X11_colourCount mo mw mr ms mt mu dd wi hi gt sp ta li sr co hb _  a1 (fon_ne hE hF)) rfl (Nat.le_of_ble_eq_true rfl) (by decide) (by decide) (by decide) (by decide) (fun _ _ _ hf => False.elim hf) (fun r151 h151 n151 hp151 => ?_)
    obtain ⟨z151, s151, e151, rfl, rfl, rfl⟩ := hp151
    replace hE := fon_ok e151 hE
    refine aw_sipush (v := 256) dX11_canHold_154 (by decide) ?_
    refine aw_icmp_gt (tgt := 164) dX11_canHold_157 (by decide) (fun c157 => ?_) (fun c157 => ?_)
    · replace hE := fit hE c157
      refine aw_iconst (v := 0) dX11_canHold_164 (by decide) ?_
      exact aw_zret dX11_canHold_165 rfl (narB (by decide)) (Nat.zero_le _) (Nat.zero_le _) (Nat.zero_le _) (Nat.zero_le _) ⟨_, _, hE.symm, rfl, rfl, rfl⟩
    · replace hE := fif hE c157
      refine aw_iconst (v := 1) dX11_canHold_160 (by decide) ?_
      refine aw_goto (tgt := 165) dX11_canHold_161 (by decide) ?_
      exact aw_zret dX11_canHold_165 rfl (narB (by decide)) (Nat.zero_le _) (Nat.zero_le _) (Nat.zero_le _) (Nat.zero_le _) ⟨_, _, hE.symm, rfl, rfl, rfl⟩
  replace hE := fif hE e1_14
  by_cases e1_15 : a2 = 15
  · replace hE := fit hE e1_15
    refine aw_tableIn (tgt := 149) dX11_canHold_1 (by rw [e1_15]; decide) (by rw [e1_15]; decide) (off := 148) (by rw [e1_15]; decide) (by decide) ?_
    refine aw_aload_n dX11_canHold_149 rfl ?_
    refine aw_iload_n dX11_canHold_150 rfl ?_
    refine aw_callV dX11_canHold_151 at_mod cvX11_277 rfl (kF_X11_colourCount mo mw mr ms mt mu dd wi hi gt sp ta li sr co hb _  a1 (fon_ne hE hF)) rfl (Nat.le_of_ble_eq_true rfl) (by decide) (by decide) (by decide) (by decide) (fun _ _ _ hf => False.elim hf) (fun r151 h151 n151 hp151 => ?_)
    obtain ⟨z151, s151, e151, rfl, rfl, rfl⟩ := hp151
    replace hE := fon_ok e151 hE
    refine aw_sipush (v := 256) dX11_canHold_154 (by decide) ?_
    refine aw_icmp_gt (tgt := 164) dX11_canHold_157 (by decide) (fun c157 => ?_) (fun c157 => ?_)
    · replace hE := fit hE c157
      refine aw_iconst (v := 0) dX11_canHold_164 (by decide) ?_
      exact aw_zret dX11_canHold_165 rfl (narB (by decide)) (Nat.zero_le _) (Nat.zero_le _) (Nat.zero_le _) (Nat.zero_le _) ⟨_, _, hE.symm, rfl, rfl, rfl⟩
    · replace hE := fif hE c157
      refine aw_iconst (v := 1) dX11_canHold_160 (by decide) ?_
      refine aw_goto (tgt := 165) dX11_canHold_161 (by decide) ?_
      exact aw_zret dX11_canHold_165 rfl (narB (by decide)) (Nat.zero_le _) (Nat.zero_le _) (Nat.zero_le _) (Nat.zero_le _) ⟨_, _, hE.symm, rfl, rfl, rfl⟩
  replace hE := fif hE e1_15
  by_cases e1_16 : a2 = 16
  · replace hE := fit hE e1_16
    refine aw_tableIn (tgt := 118) dX11_canHold_1 (by rw [e1_16]; decide) (by rw [e1_16]; decide) (off := 117) (by rw [e1_16]; decide) (by decide) ?_
    refine aw_aload_n dX11_canHold_118 rfl ?_
    refine aw_iload_n dX11_canHold_119 rfl ?_
    refine aw_callV dX11_canHold_120 at_mod cvX11_271 rfl (kF_X11_isOpaque mo mw mr ms mt mu dd wi hi gt sp ta li sr co hb _  a1 (fon_ne hE hF)) rfl (Nat.le_of_ble_eq_true rfl) (by decide) (by decide) (by decide) (by decide) (fun _ _ _ hf => False.elim hf) (fun r120 h120 n120 hp120 => ?_)
    obtain ⟨z120, s120, e120, rfl, rfl, rfl⟩ := hp120
    replace hE := fon_ok e120 hE
    obtain ⟨g123, hE⟩ := fgd hE hF
    exact aw_zret dX11_canHold_123 rfl (narB g123) (Nat.zero_le _) (Nat.zero_le _) (Nat.zero_le _) (Nat.zero_le _) ⟨_, _, hE.symm, rfl, rfl, rfl⟩
  replace hE := fif hE e1_16
  by_cases e1_17 : a2 = 17
  · replace hE := fit hE e1_17
    refine aw_tableIn (tgt := 124) dX11_canHold_1 (by rw [e1_17]; decide) (by rw [e1_17]; decide) (off := 123) (by rw [e1_17]; decide) (by decide) ?_
    refine aw_aload_n dX11_canHold_124 rfl ?_
    refine aw_iload_n dX11_canHold_125 rfl ?_
    refine aw_callV dX11_canHold_126 at_mod cvX11_271 rfl (kF_X11_isOpaque mo mw mr ms mt mu dd wi hi gt sp ta li sr co hb _  a1 (fon_ne hE hF)) rfl (Nat.le_of_ble_eq_true rfl) (by decide) (by decide) (by decide) (by decide) (fun _ _ _ hf => False.elim hf) (fun r126 h126 n126 hp126 => ?_)
    obtain ⟨z126, s126, e126, rfl, rfl, rfl⟩ := hp126
    replace hE := fon_ok e126 hE
    refine aw_if_eq (tgt := 147) dX11_canHold_129 (by decide) (fun c129 => ?_) (fun c129 => ?_)
    · replace hE := fit hE c129
      exact aw_lv _ (fun _ h => absurd h List.not_mem_nil) (b_X11_canHold_147 mo mw mr ms mt mu dd wi hi gt sp ta li co hb n   sr _ hE hF)
    · replace hE := fif hE c129
      refine aw_aload_n dX11_canHold_132 rfl ?_
      refine aw_iload_n dX11_canHold_133 rfl ?_
      refine aw_callV dX11_canHold_134 at_mod cvX11_277 rfl (kF_X11_colourCount mo mw mr ms mt mu dd wi hi gt sp ta li sr co hb _  a1 (fon_ne hE hF)) rfl (Nat.le_of_ble_eq_true rfl) (by decide) (by decide) (by decide) (by decide) (fun _ _ _ hf => False.elim hf) (fun r134 h134 n134 hp134 => ?_)
      obtain ⟨z134, s134, e134, rfl, rfl, rfl⟩ := hp134
      replace hE := fon_ok e134 hE
      refine aw_sipush (v := 256) dX11_canHold_137 (by decide) ?_
      refine aw_icmp_gt (tgt := 147) dX11_canHold_140 (by decide) (fun c140 => ?_) (fun c140 => ?_)
      · replace hE := fit hE c140
        exact aw_lv _ (fun _ h => absurd h List.not_mem_nil) (b_X11_canHold_147 mo mw mr ms mt mu dd wi hi gt sp ta li co hb n   s134 _ hE hF)
      · replace hE := fif hE c140
        refine aw_iconst (v := 1) dX11_canHold_143 (by decide) ?_
        refine aw_goto (tgt := 148) dX11_canHold_144 (by decide) ?_
        exact aw_zret dX11_canHold_148 rfl (narB (by decide)) (Nat.zero_le _) (Nat.zero_le _) (Nat.zero_le _) (Nat.zero_le _) ⟨_, _, hE.symm, rfl, rfl, rfl⟩
  replace hE := fif hE e1_17
  have q1_0 : ¬ Int32.toInt a2 = 0 := fun q => e1_0 (Int32.toInt_inj.mp (q.trans (by decide)))
  have q1_1 : ¬ Int32.toInt a2 = 1 := fun q => e1_1 (Int32.toInt_inj.mp (q.trans (by decide)))
  have q1_2 : ¬ Int32.toInt a2 = 2 := fun q => e1_2 (Int32.toInt_inj.mp (q.trans (by decide)))
  have q1_3 : ¬ Int32.toInt a2 = 3 := fun q => e1_3 (Int32.toInt_inj.mp (q.trans (by decide)))
  have q1_4 : ¬ Int32.toInt a2 = 4 := fun q => e1_4 (Int32.toInt_inj.mp (q.trans (by decide)))
  have q1_5 : ¬ Int32.toInt a2 = 5 := fun q => e1_5 (Int32.toInt_inj.mp (q.trans (by decide)))
  have q1_6 : ¬ Int32.toInt a2 = 6 := fun q => e1_6 (Int32.toInt_inj.mp (q.trans (by decide)))
  have q1_7 : ¬ Int32.toInt a2 = 7 := fun q => e1_7 (Int32.toInt_inj.mp (q.trans (by decide)))
  have q1_8 : ¬ Int32.toInt a2 = 8 := fun q => e1_8 (Int32.toInt_inj.mp (q.trans (by decide)))
  have q1_9 : ¬ Int32.toInt a2 = 9 := fun q => e1_9 (Int32.toInt_inj.mp (q.trans (by decide)))
  have q1_10 : ¬ Int32.toInt a2 = 10 := fun q => e1_10 (Int32.toInt_inj.mp (q.trans (by decide)))
  have q1_11 : ¬ Int32.toInt a2 = 11 := fun q => e1_11 (Int32.toInt_inj.mp (q.trans (by decide)))
  have q1_12 : ¬ Int32.toInt a2 = 12 := fun q => e1_12 (Int32.toInt_inj.mp (q.trans (by decide)))
  have q1_13 : ¬ Int32.toInt a2 = 13 := fun q => e1_13 (Int32.toInt_inj.mp (q.trans (by decide)))
  have q1_14 : ¬ Int32.toInt a2 = 14 := fun q => e1_14 (Int32.toInt_inj.mp (q.trans (by decide)))
  have q1_15 : ¬ Int32.toInt a2 = 15 := fun q => e1_15 (Int32.toInt_inj.mp (q.trans (by decide)))
  have q1_16 : ¬ Int32.toInt a2 = 16 := fun q => e1_16 (Int32.toInt_inj.mp (q.trans (by decide)))
  have q1_17 : ¬ Int32.toInt a2 = 17 := fun q => e1_17 (Int32.toInt_inj.mp (q.trans (by decide)))
  refine aw_tableOut (tgt := 166) dX11_canHold_1 (by omega) (by decide) ?_
  refine aw_iconst (v := 0) dX11_canHold_166 (by decide) ?_
  exact aw_zret dX11_canHold_167 rfl (narB (by decide)) (Nat.zero_le _) (Nat.zero_le _) (Nat.zero_le _) (Nat.zero_le _) ⟨_, _, hE.symm, rfl, rfl, rfl⟩
