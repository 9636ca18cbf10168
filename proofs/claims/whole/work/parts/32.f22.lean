def P_X11_readPlainRows (mo : MO) (mw : MW) (ms : Nat) (mt : A) (mu : A) (dd : A) (wi : A) (hi : A) (sp : A) (ta : A) (li : A) (sr : A) (co : A) (hb : aH) (n : Nat) (res : Out (MR × A) Int32) : Option Value → aH → Nat → Prop := fun r1 h2 n2 => ∃ (a : Int32) (s : (MR × A)), res = fok a s ∧ r1 = some (.int a) ∧ h2 = HM mo mw s.1 ms mt mu dd wi hi s.2 sp ta li sr co hb ∧ n = n2
abbrev Q_X11_readPlainRows_20 (mo : MO) (mw : MW) (ms : Nat) (mt : A) (mu : A) (dd : A) (wi : A) (hi : A) (sp : A) (ta : A) (li : A) (sr : A) (co : A) (hb : aH) (n : Nat) (k : Int32 → Int32 → Int32 → MR → A → Out (MR × A) Int32) : Prop := ∀ (v1 : Int32) (v2 : Int32) (v3 : Int32) (mr : MR) (gt : A) (res : Out (MR × A) Int32), k v1 v2 v3 mr gt = res → res ≠ fno → AW (fun _ _ => True) mX11_readPlainRows (rmD 3 0 0) 0 0 (P_X11_readPlainRows mo mw ms mt mu dd wi hi sp ta li sr co hb n res) (fun _ _ _ => False) 0 0 20 [(0, .ref 31), (1, .int v1), (2, .int v2), (3, .int v3)] [] (HM mo mw mr ms mt mu dd wi hi gt sp ta li sr co hb) n
abbrev Q_X11_readPlainRows_44 (mo : MO) (mw : MW) (ms : Nat) (mt : A) (mu : A) (dd : A) (wi : A) (hi : A) (sp : A) (ta : A) (li : A) (sr : A) (co : A) (hb : aH) (n : Nat) (k : Int32 → Int32 → Int32 → Int32 → MR → A → Out (MR × A) Int32) : Prop := ∀ (v1 : Int32) (v2 : Int32) (v3 : Int32) (t0 : Int32) (mr : MR) (gt : A) (res : Out (MR × A) Int32), k v1 v2 v3 t0 mr gt = res → res ≠ fno → AW (fun _ _ => True) mX11_readPlainRows (rmD 3 0 0) 0 0 (P_X11_readPlainRows mo mw ms mt mu dd wi hi sp ta li sr co hb n res) (fun _ _ _ => False) 0 0 44 [(0, .ref 31), (1, .int v1), (2, .int v2), (3, .int v3)] [.int t0] (HM mo mw mr ms mt mu dd wi hi gt sp ta li sr co hb) n
abbrev Q_X11_readPlainRows_55 (mo : MO) (mw : MW) (ms : Nat) (mt : A) (mu : A) (dd : A) (wi : A) (hi : A) (sp : A) (ta : A) (li : A) (sr : A) (co : A) (hb : aH) (n : Nat) (k : Int32 → Int32 → Int32 → Int32 → Int32 → Int32 → MR → A → Out (MR × A) Int32) : Prop := ∀ (v1 : Int32) (v2 : Int32) (v3 : Int32) (v4 : Int32) (v5 : Int32) (v6 : Int32) (mr : MR) (gt : A) (res : Out (MR × A) Int32), k v1 v2 v3 v4 v5 v6 mr gt = res → res ≠ fno → AW (fun _ _ => True) mX11_readPlainRows (rmD 3 0 0) 0 0 (P_X11_readPlainRows mo mw ms mt mu dd wi hi sp ta li sr co hb n res) (fun _ _ _ => False) 0 0 55 [(0, .ref 31), (1, .int v1), (2, .int v2), (3, .int v3), (4, .int v4), (5, .int v5), (6, .int v6)] [] (HM mo mw mr ms mt mu dd wi hi gt sp ta li sr co hb) n
abbrev Q_X11_readPlainRows_122 (mo : MO) (mw : MW) (ms : Nat) (mt : A) (mu : A) (dd : A) (wi : A) (hi : A) (sp : A) (ta : A) (li : A) (sr : A) (co : A) (hb : aH) (n : Nat) (k : Int32 → Int32 → Int32 → Int32 → Int32 → Int32 → Int32 → Int32 → MR → A → Out (MR × A) Int32) : Prop := ∀ (v1 : Int32) (v2 : Int32) (v3 : Int32) (v4 : Int32) (v5 : Int32) (v6 : Int32) (v7 : Int32) (v8 : Int32) (mr : MR) (gt : A) (res : Out (MR × A) Int32), k v1 v2 v3 v4 v5 v6 v7 v8 mr gt = res → res ≠ fno → AW (fun _ _ => True) mX11_readPlainRows (rmD 3 0 0) 0 0 (P_X11_readPlainRows mo mw ms mt mu dd wi hi sp ta li sr co hb n res) (fun _ _ _ => False) 0 0 122 [(0, .ref 31), (1, .int v1), (2, .int v2), (3, .int v3), (4, .int v4), (5, .int v5), (6, .int v6), (7, .int v7), (8, .int v8)] [] (HM mo mw mr ms mt mu dd wi hi gt sp ta li sr co hb) n
abbrev Q_X11_readPlainRows_317 (mo : MO) (mw : MW) (ms : Nat) (mt : A) (mu : A) (dd : A) (wi : A) (hi : A) (sp : A) (ta : A) (li : A) (sr : A) (co : A) (hb : aH) (n : Nat) (k : Int32 → Int32 → Int32 → Int32 → Int32 → Int32 → Int32 → Int32 → Int32 → MR → A → Out (MR × A) Int32) : Prop := ∀ (v1 : Int32) (v2 : Int32) (v3 : Int32) (v4 : Int32) (v5 : Int32) (v6 : Int32) (v8 : Int32) (t0 : Int32) (t1 : Int32) (mr : MR) (gt : A) (res : Out (MR × A) Int32), k v1 v2 v3 v4 v5 v6 v8 t0 t1 mr gt = res → res ≠ fno → AW (fun _ _ => True) mX11_readPlainRows (rmD 3 0 0) 0 0 (P_X11_readPlainRows mo mw ms mt mu dd wi hi sp ta li sr co hb n res) (fun _ _ _ => False) 0 0 317 [(0, .ref 31), (1, .int v1), (2, .int v2), (3, .int v3), (4, .int v4), (5, .int v5), (6, .int v6), (8, .int v8)] [.int t0, .int t1, .ref 37] (HM mo mw mr ms mt mu dd wi hi gt sp ta li sr co hb) n
abbrev Q_X11_readPlainRows_329 (mo : MO) (mw : MW) (ms : Nat) (mt : A) (mu : A) (dd : A) (wi : A) (hi : A) (sp : A) (ta : A) (li : A) (sr : A) (co : A) (hb : aH) (n : Nat) (k : Int32 → Int32 → Int32 → Int32 → Int32 → Int32 → MR → A → Out (MR × A) Int32) : Prop := ∀ (v1 : Int32) (v2 : Int32) (v3 : Int32) (v4 : Int32) (v5 : Int32) (v6 : Int32) (mr : MR) (gt : A) (res : Out (MR × A) Int32), k v1 v2 v3 v4 v5 v6 mr gt = res → res ≠ fno → AW (fun _ _ => True) mX11_readPlainRows (rmD 3 0 0) 0 0 (P_X11_readPlainRows mo mw ms mt mu dd wi hi sp ta li sr co hb n res) (fun _ _ _ => False) 0 0 329 [(0, .ref 31), (1, .int v1), (2, .int v2), (3, .int v3), (4, .int v4), (5, .int v5), (6, .int v6)] [] (HM mo mw mr ms mt mu dd wi hi gt sp ta li sr co hb) n
def F_X11_readPlainRows_329 (sb : A) (ta : A) (k20 : Int32 → Int32 → Int32 → MR → A → Out (MR × A) Int32) (k55 : Int32 → Int32 → Int32 → Int32 → Int32 → Int32 → MR → A → Out (MR × A) Int32) (v1 : Int32) (v2 : Int32) (v3 : Int32) (v4 : Int32) (v5 : Int32) (v6 : Int32) (mr : MR) (gt : A) : Out (MR × A) Int32 := k55 v1 v2 v3 v4 v5 (v6 + 1) mr gt
set_option maxHeartbeats 1000000 in
set_option maxRecDepth 100000 in
theorem b_X11_readPlainRows_329 (mo : MO) (mw : MW) (ms : Nat) (mt : A) (mu : A) (dd : A) (wi : A) (hi : A) (sp : A) (ta : A) (li : A) (sr : A) (co : A) (hb : aH) (n : Nat) (hms : isMS ms) (k20 : Int32 → Int32 → Int32 → MR → A → Out (MR × A) Int32) (hk20 : Q_X11_readPlainRows_20 mo mw ms mt mu dd wi hi sp ta li sr co hb n k20) (k55 : Int32 → Int32 → Int32 → Int32 → Int32 → Int32 → MR → A → Out (MR × A) Int32) (hk55 : Q_X11_readPlainRows_55 mo mw ms mt mu dd wi hi sp ta li sr co hb n k55) : Q_X11_readPlainRows_329 mo mw ms mt mu dd wi hi sp ta li sr co hb n (F_X11_readPlainRows_329 (srcB ms mt mu) ta k20 k55) := by
  intro v1 v2 v3 v4 v5 v6 mr gt res hE hF
  unfold F_X11_readPlainRows_329 at hE
  refine aw_iinc (v := (v6 + 1)) (lv2 := [(6, _), (0, _), (1, _), (2, _), (3, _), (4, _), (5, _)]) dX11_readPlainRows_329 rfl (incE (by decide)) (by decide) rfl ?_
  refine aw_goto (tgt := 55) dX11_readPlainRows_332 (by decide) ?_
  exact aw_lv _ (List.forall_mem_cons.mpr ⟨rfl, (List.forall_mem_cons.mpr ⟨rfl, (List.forall_mem_cons.mpr ⟨rfl, (List.forall_mem_cons.mpr ⟨rfl, (List.forall_mem_cons.mpr ⟨rfl, (List.forall_mem_cons.mpr ⟨rfl, (List.forall_mem_cons.mpr ⟨rfl, fun _ h => absurd h List.not_mem_nil⟩)⟩)⟩)⟩)⟩)⟩)⟩) (hk55 v1 v2 v3 v4 v5 (v6 + 1) mr gt _ hE hF)
def F_X11_readPlainRows_317 (sb : A) (ta : A) (k20 : Int32 → Int32 → Int32 → MR → A → Out (MR × A) Int32) (k55 : Int32 → Int32 → Int32 → Int32 → Int32 → Int32 → MR → A → Out (MR × A) Int32) (v1 : Int32) (v2 : Int32) (v3 : Int32) (v4 : Int32) (v5 : Int32) (v6 : Int32) (v8 : Int32) (t0 : Int32) (t1 : Int32) (mr : MR) (gt : A) : Out (MR × A) Int32 := if inb t1 4096 then (F_X11_readPlainRows_329 sb ta k20 k55 v1 v2 v3 v4 v5 v6 ((mr_size mr), ((mr_pos mr) + v8), (mr_kind mr), (mr_whr mr), (mr_gw mr), (mr_gh mr), (mr_one mr), (mr_two mr), (mr_three mr)) (upd gt (Int32.toNatClampNeg t1) t0)) else fno
set_option maxHeartbeats 1000000 in
set_option maxRecDepth 100000 in
theorem b_X11_readPlainRows_317 (mo : MO) (mw : MW) (ms : Nat) (mt : A) (mu : A) (dd : A) (wi : A) (hi : A) (sp : A) (ta : A) (li : A) (sr : A) (co : A) (hb : aH) (n : Nat) (hms : isMS ms) (k20 : Int32 → Int32 → Int32 → MR → A → Out (MR × A) Int32) (hk20 : Q_X11_readPlainRows_20 mo mw ms mt mu dd wi hi sp ta li sr co hb n k20) (k55 : Int32 → Int32 → Int32 → Int32 → Int32 → Int32 → MR → A → Out (MR × A) Int32) (hk55 : Q_X11_readPlainRows_55 mo mw ms mt mu dd wi hi sp ta li sr co hb n k55) : Q_X11_readPlainRows_317 mo mw ms mt mu dd wi hi sp ta li sr co hb n (F_X11_readPlainRows_317 (srcB ms mt mu) ta k20 k55) := by
  intro v1 v2 v3 v4 v5 v6 v8 t0 t1 mr gt res hE hF
  unfold F_X11_readPlainRows_317 at hE
  obtain ⟨g317, hE⟩ := fgd hE hF
  refine aw_iast (f := gt) dX11_readPlainRows_317 at_mgot (vp_in_iff.mpr g317) ?_
  refine aw_eqh (h2 := HM mo mw mr ms mt mu dd wi hi (upd gt (Int32.toNatClampNeg t1) t0) sp ta li sr co hb) up_mgot ?_
  refine aw_aload_n dX11_readPlainRows_318 rfl ?_
  refine aw_dup dX11_readPlainRows_319 rfl ?_
  refine aw_getf (v := .int (mr_pos mr)) dX11_readPlainRows_320 flX11_84_10 at_mod rfl ?_
  refine aw_iload dX11_readPlainRows_323 rfl ?_
  refine aw_iadd dX11_readPlainRows_325 ?_
  refine aw_putf dX11_readPlainRows_326 ptX11_84_10 at_mod (Nat.le_of_ble_eq_true rfl) ⟨rfl, rfl⟩ ?_
  refine aw_eqh (h2 := HM mo mw ((mr_size mr), ((mr_pos mr) + v8), (mr_kind mr), (mr_whr mr), (mr_gw mr), (mr_gh mr), (mr_one mr), (mr_two mr), (mr_three mr)) ms mt mu dd wi hi (upd gt (Int32.toNatClampNeg t1) t0) sp ta li sr co hb) up_mod ?_
  exact aw_lv _ (List.forall_mem_cons.mpr ⟨rfl, (List.forall_mem_cons.mpr ⟨rfl, (List.forall_mem_cons.mpr ⟨rfl, (List.forall_mem_cons.mpr ⟨rfl, (List.forall_mem_cons.mpr ⟨rfl, (List.forall_mem_cons.mpr ⟨rfl, (List.forall_mem_cons.mpr ⟨rfl, fun _ h => absurd h List.not_mem_nil⟩)⟩)⟩)⟩)⟩)⟩)⟩) (b_X11_readPlainRows_329 mo mw ms mt mu dd wi hi sp ta li sr co hb n hms k20 hk20 k55 hk55 v1 v2 v3 v4 v5 v6 ((mr_size mr), ((mr_pos mr) + v8), (mr_kind mr), (mr_whr mr), (mr_gw mr), (mr_gh mr), (mr_one mr), (mr_two mr), (mr_three mr)) (upd gt (Int32.toNatClampNeg t1) t0) _ hE hF)
def F_X11_readPlainRows_122 (sb : A) (ta : A) (k20 : Int32 → Int32 → Int32 → MR → A → Out (MR × A) Int32) (k55 : Int32 → Int32 → Int32 → Int32 → Int32 → Int32 → MR → A → Out (MR × A) Int32) (v1 : Int32) (v2 : Int32) (v3 : Int32) (v4 : Int32) (v5 : Int32) (v6 : Int32) (v7 : Int32) (v8 : Int32) (mr : MR) (gt : A) : Out (MR × A) Int32 := fon (F_X11_b ((mr_pos mr) - 1) sb) (fun z129 s129 => if ¬ v8 = 0 then (if ((z129 >>> (((8 - (mr_one mr)) - ((v6 - v6 / v8 * v8) * (mr_one mr))) &&& 31)) &&& ((1 <<< ((mr_one mr) &&& 31)) - 1)) < (mr_three mr) then (if inb ((z129 >>> (((8 - (mr_one mr)) - ((v6 - v6 / v8 * v8) * (mr_one mr))) &&& 31)) &&& ((1 <<< ((mr_one mr) &&& 31)) - 1)) 65536 then (if inb v7 4096 then (F_X11_readPlainRows_329 sb ta k20 k55 v1 v2 v3 v4 v5 v6 mr (upd gt (Int32.toNatClampNeg v7) (ta (Int32.toNatClampNeg ((z129 >>> (((8 - (mr_one mr)) - ((v6 - v6 / v8 * v8) * (mr_one mr))) &&& 31)) &&& ((1 <<< ((mr_one mr) &&& 31)) - 1)))))) else fno) else fno) else (fon (F_X11_wrong 6 ((mr_pos mr) - 1) mr) (fun z180 s180 => if isB z180 then (fok (z180 : Int32) (s180, gt)) else fno) (fun _ _ => fno))) else fno) (fun _ _ => fno)
set_option maxHeartbeats 1000000 in
set_option maxRecDepth 100000 in
theorem b_X11_readPlainRows_122 (mo : MO) (mw : MW) (ms : Nat) (mt : A) (mu : A) (dd : A) (wi : A) (hi : A) (sp : A) (ta : A) (li : A) (sr : A) (co : A) (hb : aH) (n : Nat) (hms : isMS ms) (k20 : Int32 → Int32 → Int32 → MR → A → Out (MR × A) Int32) (hk20 : Q_X11_readPlainRows_20 mo mw ms mt mu dd wi hi sp ta li sr co hb n k20) (k55 : Int32 → Int32 → Int32 → Int32 → Int32 → Int32 → MR → A → Out (MR × A) Int32) (hk55 : Q_X11_readPlainRows_55 mo mw ms mt mu dd wi hi sp ta li sr co hb n k55) : Q_X11_readPlainRows_122 mo mw ms mt mu dd wi hi sp ta li sr co hb n (F_X11_readPlainRows_122 (srcB ms mt mu) ta k20 k55) := by
  intro v1 v2 v3 v4 v5 v6 v7 v8 mr gt res hE hF
  unfold F_X11_readPlainRows_122 at hE
  refine aw_aload_n dX11_readPlainRows_122 rfl ?_
  refine aw_aload_n dX11_readPlainRows_123 rfl ?_
  refine aw_getf (v := .int (mr_pos mr)) dX11_readPlainRows_124 flX11_84_10 at_mod rfl ?_
  refine aw_iconst (v := 1) dX11_readPlainRows_127 (by decide) ?_
  refine aw_isub dX11_readPlainRows_128 ?_
  refine aw_callV dX11_readPlainRows_129 at_mod cvX11_99 rfl (kF_X11_b mo mw mr ms mt mu dd wi hi gt sp ta li sr co hb _ hms ((mr_pos mr) - 1) (fon_ne hE hF)) rfl (Nat.le_of_ble_eq_true rfl) (by decide) (by decide) (by decide) (by decide) (fun _ _ _ hf => False.elim hf) (fun r129 h129 n129 hp129 => ?_)
  obtain ⟨z129, s129, e129, rfl, rfl, rfl⟩ := hp129
  replace hE := fon_ok e129 hE
  refine aw_bipush (v := 8) dX11_readPlainRows_132 (by decide) ?_
  refine aw_aload_n dX11_readPlainRows_134 rfl ?_
  refine aw_getf (v := .int (mr_one mr)) dX11_readPlainRows_135 flX11_130_10 at_mod rfl ?_
  refine aw_isub dX11_readPlainRows_138 ?_
  refine aw_iload dX11_readPlainRows_139 rfl ?_
  refine aw_iload dX11_readPlainRows_141 rfl ?_
  obtain ⟨g143, hE⟩ := fgd hE hF
  refine aw_irem dX11_readPlainRows_143 g143 ?_
  refine aw_aload_n dX11_readPlainRows_144 rfl ?_
  refine aw_getf (v := .int (mr_one mr)) dX11_readPlainRows_145 flX11_130_10 at_mod rfl ?_
  refine aw_imul dX11_readPlainRows_148 ?_
  refine aw_isub dX11_readPlainRows_149 ?_
  refine aw_ishr dX11_readPlainRows_150 ?_
  refine aw_iconst (v := 1) dX11_readPlainRows_151 (by decide) ?_
  refine aw_aload_n dX11_readPlainRows_152 rfl ?_
  refine aw_getf (v := .int (mr_one mr)) dX11_readPlainRows_153 flX11_130_10 at_mod rfl ?_
  refine aw_ishl dX11_readPlainRows_156 ?_
  refine aw_iconst (v := 1) dX11_readPlainRows_157 (by decide) ?_
  refine aw_isub dX11_readPlainRows_158 ?_
  refine aw_iand dX11_readPlainRows_159 ?_
  refine aw_istore (lv2 := [(9, _), (0, _), (1, _), (2, _), (3, _), (4, _), (5, _), (6, _), (7, _), (8, _)]) dX11_readPlainRows_160 (by decide) rfl ?_
  refine aw_iload dX11_readPlainRows_162 rfl ?_
  refine aw_aload_n dX11_readPlainRows_164 rfl ?_
  refine aw_getf (v := .int (mr_three mr)) dX11_readPlainRows_165 flX11_136_10 at_mod rfl ?_
  refine aw_icmp_lt (tgt := 184) dX11_readPlainRows_168 (by decide) (fun c168 => ?_) (fun c168 => ?_)
  · replace hE := fit hE c168
    refine aw_aload_n dX11_readPlainRows_184 rfl ?_
    refine aw_getf (v := .ref 37) dX11_readPlainRows_185 flX11_27_10 at_mod rfl ?_
    refine aw_iload dX11_readPlainRows_188 rfl ?_
    refine aw_aload_n dX11_readPlainRows_190 rfl ?_
    refine aw_getf (v := .ref 39) dX11_readPlainRows_191 flX11_49_10 at_mod rfl ?_
    refine aw_iload dX11_readPlainRows_194 rfl ?_
    obtain ⟨g196, hE⟩ := fgd hE hF
    refine aw_iald (f := ta) dX11_readPlainRows_196 at_mtable (vp_in_iff.mpr g196) ?_
    obtain ⟨g197, hE⟩ := fgd hE hF
    refine aw_iast (f := gt) dX11_readPlainRows_197 at_mgot (vp_in_iff.mpr g197) ?_
    refine aw_eqh (h2 := HM mo mw mr ms mt mu dd wi hi (upd gt (Int32.toNatClampNeg v7) (ta (Int32.toNatClampNeg ((z129 >>> (((8 - (mr_one mr)) - ((v6 - v6 / v8 * v8) * (mr_one mr))) &&& 31)) &&& ((1 <<< ((mr_one mr) &&& 31)) - 1))))) sp ta li sr co hb) up_mgot ?_
    refine aw_goto (tgt := 329) dX11_readPlainRows_198 (by decide) ?_
    exact aw_lv _ (List.forall_mem_cons.mpr ⟨rfl, (List.forall_mem_cons.mpr ⟨rfl, (List.forall_mem_cons.mpr ⟨rfl, (List.forall_mem_cons.mpr ⟨rfl, (List.forall_mem_cons.mpr ⟨rfl, (List.forall_mem_cons.mpr ⟨rfl, (List.forall_mem_cons.mpr ⟨rfl, fun _ h => absurd h List.not_mem_nil⟩)⟩)⟩)⟩)⟩)⟩)⟩) (b_X11_readPlainRows_329 mo mw ms mt mu dd wi hi sp ta li sr co hb n hms k20 hk20 k55 hk55 v1 v2 v3 v4 v5 v6 mr (upd gt (Int32.toNatClampNeg v7) (ta (Int32.toNatClampNeg ((z129 >>> (((8 - (mr_one mr)) - ((v6 - v6 / v8 * v8) * (mr_one mr))) &&& 31)) &&& ((1 <<< ((mr_one mr) &&& 31)) - 1))))) _ hE hF)
  · replace hE := fif hE c168
    refine aw_aload_n dX11_readPlainRows_171 rfl ?_
    refine aw_bipush (v := 6) dX11_readPlainRows_172 (by decide) ?_
    refine aw_aload_n dX11_readPlainRows_174 rfl ?_
    refine aw_getf (v := .int (mr_pos mr)) dX11_readPlainRows_175 flX11_84_10 at_mod rfl ?_
    refine aw_iconst (v := 1) dX11_readPlainRows_178 (by decide) ?_
    refine aw_isub dX11_readPlainRows_179 ?_
    refine aw_callV dX11_readPlainRows_180 at_mod cvX11_90 rfl (kF_X11_wrong mo mw mr ms mt mu dd wi hi gt sp ta li sr co hb _  6 ((mr_pos mr) - 1) (fon_ne hE hF)) rfl (Nat.le_of_ble_eq_true rfl) (by decide) (by decide) (by decide) (by decide) (fun _ _ _ hf => False.elim hf) (fun r180 h180 n180 hp180 => ?_)
    obtain ⟨z180, s180, e180, rfl, rfl, rfl⟩ := hp180
    replace hE := fon_ok e180 hE
    obtain ⟨g183, hE⟩ := fgd hE hF
    exact aw_zret dX11_readPlainRows_183 rfl (narB g183) (Nat.zero_le _) (Nat.zero_le _) (Nat.zero_le _) (Nat.zero_le _) ⟨_, _, hE.symm, rfl, rfl, rfl⟩
def F_X11_readPlainRows_55 (sb : A) (ta : A) (k20 : Int32 → Int32 → Int32 → MR → A → Out (MR × A) Int32) (k55 : Int32 → Int32 → Int32 → Int32 → Int32 → Int32 → MR → A → Out (MR × A) Int32) (v1 : Int32) (v2 : Int32) (v3 : Int32) (v4 : Int32) (v5 : Int32) (v6 : Int32) (mr : MR) (gt : A) : Out (MR × A) Int32 := if (mr_gw mr) ≤ v6 then (fon (F_X11_want (v2 - ((mr_pos mr) - v5)) mr) (fun z349 s349 => if z349 = 0 then (fok (0 : Int32) (s349, gt)) else (k20 v1 v2 (v3 + 1) ((mr_size s349), ((mr_pos s349) + (v2 - ((mr_pos mr) - v5))), (mr_kind s349), (mr_whr s349), (mr_gw s349), (mr_gh s349), (mr_one s349), (mr_two s349), (mr_three s349)) gt)) (fun _ _ => fno)) else (if 8 < (mr_one mr) then (fon (F_X11_want ((mr_one mr) / 8) mr) (fun z213 s213 => if z213 = 0 then (fok (0 : Int32) (s213, gt)) else (fon (F_X11_low (mr_pos s213) 2 sb) (fun z227 s227 => if ((mr_one mr) / 8) = 2 then (F_X11_readPlainRows_317 sb ta k20 k55 v1 v2 v3 v4 v5 v6 ((mr_one mr) / 8) (F_X11_mix (F_X11_fifth (((z227).toInt32 >>> ((10 : Int32) &&& 31)) &&& 31)) (F_X11_fifth (((z227).toInt32 >>> ((5 : Int32) &&& 31)) &&& 31)) (F_X11_fifth ((z227).toInt32 &&& 31)) 255) (((mr_gw mr) * v4) + v6) s213 gt) else (fon (F_X11_b ((mr_pos s213) + 2) sb) (fun z290 s290 => fon (F_X11_b ((mr_pos s213) + 1) sb) (fun z300 s300 => fon (F_X11_b (mr_pos s213) sb) (fun z308 s308 => F_X11_readPlainRows_317 sb ta k20 k55 v1 v2 v3 v4 v5 v6 ((mr_one mr) / 8) (F_X11_mix z290 z300 z308 255) (((mr_gw mr) * v4) + v6) s213 gt) (fun _ _ => fno)) (fun _ _ => fno)) (fun _ _ => fno))) (fun _ _ => fno))) (fun _ _ => fno)) else (if ¬ (mr_one mr) = 0 then (if ¬ (8 / (mr_one mr)) = 0 then (if (v6 - v6 / (8 / (mr_one mr)) * (8 / (mr_one mr))) = 0 then (fon (F_X11_want 1 mr) (fun z104 s104 => if z104 = 0 then (fok (0 : Int32) (s104, gt)) else (F_X11_readPlainRows_122 sb ta k20 k55 v1 v2 v3 v4 v5 v6 (((mr_gw mr) * v4) + v6) (8 / (mr_one mr)) ((mr_size s104), ((mr_pos s104) + 1), (mr_kind s104), (mr_whr s104), (mr_gw s104), (mr_gh s104), (mr_one s104), (mr_two s104), (mr_three s104)) gt)) (fun _ _ => fno)) else (F_X11_readPlainRows_122 sb ta k20 k55 v1 v2 v3 v4 v5 v6 (((mr_gw mr) * v4) + v6) (8 / (mr_one mr)) mr gt)) else fno) else fno))
set_option maxHeartbeats 1000000 in
set_option maxRecDepth 100000 in
theorem b_X11_readPlainRows_55 (mo : MO) (mw : MW) (ms : Nat) (mt : A) (mu : A) (dd : A) (wi : A) (hi : A) (sp : A) (ta : A) (li : A) (sr : A) (co : A) (hb : aH) (n : Nat) (hms : isMS ms) (k20 : Int32 → Int32 → Int32 → MR → A → Out (MR × A) Int32) (hk20 : Q_X11_readPlainRows_20 mo mw ms mt mu dd wi hi sp ta li sr co hb n k20) (k55 : Int32 → Int32 → Int32 → Int32 → Int32 → Int32 → MR → A → Out (MR × A) Int32) (hk55 : Q_X11_readPlainRows_55 mo mw ms mt mu dd wi hi sp ta li sr co hb n k55) : Q_X11_readPlainRows_55 mo mw ms mt mu dd wi hi sp ta li sr co hb n (F_X11_readPlainRows_55 (srcB ms mt mu) ta k20 k55) := by
  intro v1 v2 v3 v4 v5 v6 mr gt res hE hF
  unfold F_X11_readPlainRows_55 at hE
  refine aw_iload dX11_readPlainRows_55 rfl ?_
  refine aw_aload_n dX11_readPlainRows_57 rfl ?_
  refine aw_getf (v := .int (mr_gw mr)) dX11_readPlainRows_58 flX11_109_10 at_mod rfl ?_
  refine aw_icmp_ge (tgt := 335) dX11_readPlainRows_61 (by decide) (fun c61 => ?_) (fun c61 => ?_)
  · replace hE := fit hE c61
    refine aw_iload_n dX11_readPlainRows_335 rfl ?_
    refine aw_aload_n dX11_readPlainRows_336 rfl ?_
    refine aw_getf (v := .int (mr_pos mr)) dX11_readPlainRows_337 flX11_84_10 at_mod rfl ?_
    refine aw_iload dX11_readPlainRows_340 rfl ?_
    refine aw_isub dX11_readPlainRows_342 ?_
    refine aw_isub dX11_readPlainRows_343 ?_
    refine aw_istore (lv2 := [(6, _), (0, _), (1, _), (2, _), (3, _), (4, _), (5, _)]) dX11_readPlainRows_344 (by decide) rfl ?_
    refine aw_aload_n dX11_readPlainRows_346 rfl ?_
    refine aw_iload dX11_readPlainRows_347 rfl ?_
    refine aw_callV dX11_readPlainRows_349 at_mod cvX11_103 rfl (kF_X11_want mo mw mr ms mt mu dd wi hi gt sp ta li sr co hb _  (v2 - ((mr_pos mr) - v5)) (fon_ne hE hF)) rfl (Nat.le_of_ble_eq_true rfl) (by decide) (by decide) (by decide) (by decide) (fun _ _ _ hf => False.elim hf) (fun r349 h349 n349 hp349 => ?_)
    obtain ⟨z349, s349, e349, rfl, rfl, rfl⟩ := hp349
    replace hE := fon_ok e349 hE
    refine aw_if_ne (tgt := 357) dX11_readPlainRows_352 (by decide) (fun c352 => ?_) (fun c352 => ?_)
    · replace hE := fif hE c352
      refine aw_aload_n dX11_readPlainRows_357 rfl ?_
      refine aw_dup dX11_readPlainRows_358 rfl ?_
      refine aw_getf (v := .int (mr_pos s349)) dX11_readPlainRows_359 flX11_84_10 at_mod rfl ?_
      refine aw_iload dX11_readPlainRows_362 rfl ?_
      refine aw_iadd dX11_readPlainRows_364 ?_
      refine aw_putf dX11_readPlainRows_365 ptX11_84_10 at_mod (Nat.le_of_ble_eq_true rfl) ⟨rfl, rfl⟩ ?_
      refine aw_eqh (h2 := HM mo mw ((mr_size s349), ((mr_pos s349) + (v2 - ((mr_pos mr) - v5))), (mr_kind s349), (mr_whr s349), (mr_gw s349), (mr_gh s349), (mr_one s349), (mr_two s349), (mr_three s349)) ms mt mu dd wi hi gt sp ta li sr co hb) up_mod ?_
      refine aw_iinc (v := (v3 + 1)) (lv2 := [(3, _), (6, _), (0, _), (1, _), (2, _), (4, _), (5, _)]) dX11_readPlainRows_368 rfl (incE (by decide)) (by decide) rfl ?_
      refine aw_goto (tgt := 20) dX11_readPlainRows_371 (by decide) ?_
      exact aw_lv _ (List.forall_mem_cons.mpr ⟨rfl, (List.forall_mem_cons.mpr ⟨rfl, (List.forall_mem_cons.mpr ⟨rfl, (List.forall_mem_cons.mpr ⟨rfl, fun _ h => absurd h List.not_mem_nil⟩)⟩)⟩)⟩) (hk20 v1 v2 (v3 + 1) ((mr_size s349), ((mr_pos s349) + (v2 - ((mr_pos mr) - v5))), (mr_kind s349), (mr_whr s349), (mr_gw s349), (mr_gh s349), (mr_one s349), (mr_two s349), (mr_three s349)) gt _ hE hF)
    · replace hE := fit hE c352
      refine aw_iconst (v := 0) dX11_readPlainRows_355 (by decide) ?_
      exact aw_zret dX11_readPlainRows_356 rfl (narB (by decide)) (Nat.zero_le _) (Nat.zero_le _) (Nat.zero_le _) (Nat.zero_le _) ⟨_, _, hE.symm, rfl, rfl, rfl⟩
  · replace hE := fif hE c61
    refine aw_aload_n dX11_readPlainRows_64 rfl ?_
    refine aw_getf (v := .int (mr_gw mr)) dX11_readPlainRows_65 flX11_109_10 at_mod rfl ?_
    refine aw_iload dX11_readPlainRows_68 rfl ?_
    refine aw_imul dX11_readPlainRows_70 ?_
    refine aw_iload dX11_readPlainRows_71 rfl ?_
    refine aw_iadd dX11_readPlainRows_73 ?_
    refine aw_istore (lv2 := [(7, _), (0, _), (1, _), (2, _), (3, _), (4, _), (5, _), (6, _)]) dX11_readPlainRows_74 (by decide) rfl ?_
    refine aw_aload_n dX11_readPlainRows_76 rfl ?_
    refine aw_getf (v := .int (mr_one mr)) dX11_readPlainRows_77 flX11_130_10 at_mod rfl ?_
    refine aw_bipush (v := 8) dX11_readPlainRows_80 (by decide) ?_
    refine aw_icmp_gt (tgt := 201) dX11_readPlainRows_82 (by decide) (fun c82 => ?_) (fun c82 => ?_)
    · replace hE := fit hE c82
      refine aw_aload_n dX11_readPlainRows_201 rfl ?_
      refine aw_getf (v := .int (mr_one mr)) dX11_readPlainRows_202 flX11_130_10 at_mod rfl ?_
      refine aw_bipush (v := 8) dX11_readPlainRows_205 (by decide) ?_
      refine aw_idiv dX11_readPlainRows_207 (by decide) ?_
      refine aw_istore (lv2 := [(8, _), (7, _), (0, _), (1, _), (2, _), (3, _), (4, _), (5, _), (6, _)]) dX11_readPlainRows_208 (by decide) rfl ?_
      refine aw_aload_n dX11_readPlainRows_210 rfl ?_
      refine aw_iload dX11_readPlainRows_211 rfl ?_
      refine aw_callV dX11_readPlainRows_213 at_mod cvX11_103 rfl (kF_X11_want mo mw mr ms mt mu dd wi hi gt sp ta li sr co hb _  ((mr_one mr) / 8) (fon_ne hE hF)) rfl (Nat.le_of_ble_eq_true rfl) (by decide) (by decide) (by decide) (by decide) (fun _ _ _ hf => False.elim hf) (fun r213 h213 n213 hp213 => ?_)
      obtain ⟨z213, s213, e213, rfl, rfl, rfl⟩ := hp213
      replace hE := fon_ok e213 hE
      refine aw_if_ne (tgt := 221) dX11_readPlainRows_216 (by decide) (fun c216 => ?_) (fun c216 => ?_)
      · replace hE := fif hE c216
        refine aw_aload_n dX11_readPlainRows_221 rfl ?_
        refine aw_aload_n dX11_readPlainRows_222 rfl ?_
        refine aw_getf (v := .int (mr_pos s213)) dX11_readPlainRows_223 flX11_84_10 at_mod rfl ?_
        refine aw_iconst (v := 2) dX11_readPlainRows_226 (by decide) ?_
        refine aw_callV dX11_readPlainRows_227 at_mod cvX11_183 rfl (kF_X11_low mo mw s213 ms mt mu dd wi hi gt sp ta li sr co hb _ hms (mr_pos s213) 2 (fon_ne hE hF)) rfl (Nat.le_of_ble_eq_true rfl) (by decide) (by decide) (by decide) (by decide) (fun _ _ _ hf => False.elim hf) (fun r227 h227 n227 hp227 => ?_)
        obtain ⟨z227, s227, e227, rfl, rfl, rfl⟩ := hp227
        replace hE := fon_ok e227 hE
        refine aw_l2i dX11_readPlainRows_230 ?_
        refine aw_istore (lv2 := [(9, _), (8, _), (7, _), (0, _), (1, _), (2, _), (3, _), (4, _), (5, _), (6, _)]) dX11_readPlainRows_231 (by decide) rfl ?_
        refine aw_aload_n dX11_readPlainRows_233 rfl ?_
        refine aw_getf (v := .ref 37) dX11_readPlainRows_234 flX11_27_10 at_mod rfl ?_
        refine aw_iload dX11_readPlainRows_237 rfl ?_
        refine aw_iload dX11_readPlainRows_239 rfl ?_
        refine aw_iconst (v := 2) dX11_readPlainRows_241 (by decide) ?_
        refine aw_icmp_ne (tgt := 283) dX11_readPlainRows_242 (by decide) (fun c242 => ?_) (fun c242 => ?_)
        · replace hE := fif hE c242
          refine aw_aload_n dX11_readPlainRows_283 rfl ?_
          refine aw_aload_n dX11_readPlainRows_284 rfl ?_
          refine aw_getf (v := .int (mr_pos s213)) dX11_readPlainRows_285 flX11_84_10 at_mod rfl ?_
          refine aw_iconst (v := 2) dX11_readPlainRows_288 (by decide) ?_
          refine aw_iadd dX11_readPlainRows_289 ?_
          refine aw_callV dX11_readPlainRows_290 at_mod cvX11_99 rfl (kF_X11_b mo mw s213 ms mt mu dd wi hi gt sp ta li sr co hb _ hms ((mr_pos s213) + 2) (fon_ne hE hF)) rfl (Nat.le_of_ble_eq_true rfl) (by decide) (by decide) (by decide) (by decide) (fun _ _ _ hf => False.elim hf) (fun r290 h290 n290 hp290 => ?_)
          obtain ⟨z290, s290, e290, rfl, rfl, rfl⟩ := hp290
          replace hE := fon_ok e290 hE
          refine aw_aload_n dX11_readPlainRows_293 rfl ?_
          refine aw_aload_n dX11_readPlainRows_294 rfl ?_
          refine aw_getf (v := .int (mr_pos s213)) dX11_readPlainRows_295 flX11_84_10 at_mod rfl ?_
          refine aw_iconst (v := 1) dX11_readPlainRows_298 (by decide) ?_
          refine aw_iadd dX11_readPlainRows_299 ?_
          refine aw_callV dX11_readPlainRows_300 at_mod cvX11_99 rfl (kF_X11_b mo mw s213 ms mt mu dd wi hi gt sp ta li sr co hb _ hms ((mr_pos s213) + 1) (fon_ne hE hF)) rfl (Nat.le_of_ble_eq_true rfl) (by decide) (by decide) (by decide) (by decide) (fun _ _ _ hf => False.elim hf) (fun r300 h300 n300 hp300 => ?_)
          obtain ⟨z300, s300, e300, rfl, rfl, rfl⟩ := hp300
          replace hE := fon_ok e300 hE
          refine aw_aload_n dX11_readPlainRows_303 rfl ?_
          refine aw_aload_n dX11_readPlainRows_304 rfl ?_
          refine aw_getf (v := .int (mr_pos s213)) dX11_readPlainRows_305 flX11_84_10 at_mod rfl ?_
          refine aw_callV dX11_readPlainRows_308 at_mod cvX11_99 rfl (kF_X11_b mo mw s213 ms mt mu dd wi hi gt sp ta li sr co hb _ hms (mr_pos s213) (fon_ne hE hF)) rfl (Nat.le_of_ble_eq_true rfl) (by decide) (by decide) (by decide) (by decide) (fun _ _ _ hf => False.elim hf) (fun r308 h308 n308 hp308 => ?_)
          obtain ⟨z308, s308, e308, rfl, rfl, rfl⟩ := hp308
          replace hE := fon_ok e308 hE
          refine aw_sipush (v := 255) dX11_readPlainRows_311 (by decide) ?_
          refine aw_callS dX11_readPlainRows_314  csX11_115 rfl (kF_X11_mix _ _ z290 z300 z308 255) rfl (Nat.le_of_ble_eq_true rfl) (by decide) (by decide) (by decide) (by decide) (fun _ _ _ hf => False.elim hf) (fun r314 h314 n314 hp314 => ?_)
          obtain ⟨rfl, rfl, rfl⟩ := hp314
          exact aw_lv _ (List.forall_mem_cons.mpr ⟨rfl, (List.forall_mem_cons.mpr ⟨rfl, (List.forall_mem_cons.mpr ⟨rfl, (List.forall_mem_cons.mpr ⟨rfl, (List.forall_mem_cons.mpr ⟨rfl, (List.forall_mem_cons.mpr ⟨rfl, (List.forall_mem_cons.mpr ⟨rfl, (List.forall_mem_cons.mpr ⟨rfl, fun _ h => absurd h List.not_mem_nil⟩)⟩)⟩)⟩)⟩)⟩)⟩)⟩) (b_X11_readPlainRows_317 mo mw ms mt mu dd wi hi sp ta li sr co hb n hms k20 hk20 k55 hk55 v1 v2 v3 v4 v5 v6 ((mr_one mr) / 8) (F_X11_mix z290 z300 z308 255) (((mr_gw mr) * v4) + v6) s213 gt _ hE hF)
        · replace hE := fit hE c242
          refine aw_iload dX11_readPlainRows_245 rfl ?_
          refine aw_bipush (v := 10) dX11_readPlainRows_247 (by decide) ?_
          refine aw_ishr dX11_readPlainRows_249 ?_
          refine aw_bipush (v := 31) dX11_readPlainRows_250 (by decide) ?_
          refine aw_iand dX11_readPlainRows_252 ?_
          refine aw_callS dX11_readPlainRows_253  csX11_201 rfl (kF_X11_fifth _ _ (((z227).toInt32 >>> ((10 : Int32) &&& 31)) &&& 31)) rfl (Nat.le_of_ble_eq_true rfl) (by decide) (by decide) (by decide) (by decide) (fun _ _ _ hf => False.elim hf) (fun r253 h253 n253 hp253 => ?_)
          obtain ⟨rfl, rfl, rfl⟩ := hp253
          refine aw_iload dX11_readPlainRows_256 rfl ?_
          refine aw_iconst (v := 5) dX11_readPlainRows_258 (by decide) ?_
          refine aw_ishr dX11_readPlainRows_259 ?_
          refine aw_bipush (v := 31) dX11_readPlainRows_260 (by decide) ?_
          refine aw_iand dX11_readPlainRows_262 ?_
          refine aw_callS dX11_readPlainRows_263  csX11_201 rfl (kF_X11_fifth _ _ (((z227).toInt32 >>> ((5 : Int32) &&& 31)) &&& 31)) rfl (Nat.le_of_ble_eq_true rfl) (by decide) (by decide) (by decide) (by decide) (fun _ _ _ hf => False.elim hf) (fun r263 h263 n263 hp263 => ?_)
          obtain ⟨rfl, rfl, rfl⟩ := hp263
          refine aw_iload dX11_readPlainRows_266 rfl ?_
          refine aw_bipush (v := 31) dX11_readPlainRows_268 (by decide) ?_
          refine aw_iand dX11_readPlainRows_270 ?_
          refine aw_callS dX11_readPlainRows_271  csX11_201 rfl (kF_X11_fifth _ _ ((z227).toInt32 &&& 31)) rfl (Nat.le_of_ble_eq_true rfl) (by decide) (by decide) (by decide) (by decide) (fun _ _ _ hf => False.elim hf) (fun r271 h271 n271 hp271 => ?_)
          obtain ⟨rfl, rfl, rfl⟩ := hp271
          refine aw_sipush (v := 255) dX11_readPlainRows_274 (by decide) ?_
          refine aw_callS dX11_readPlainRows_277  csX11_115 rfl (kF_X11_mix _ _ (F_X11_fifth (((z227).toInt32 >>> ((10 : Int32) &&& 31)) &&& 31)) (F_X11_fifth (((z227).toInt32 >>> ((5 : Int32) &&& 31)) &&& 31)) (F_X11_fifth ((z227).toInt32 &&& 31)) 255) rfl (Nat.le_of_ble_eq_true rfl) (by decide) (by decide) (by decide) (by decide) (fun _ _ _ hf => False.elim hf) (fun r277 h277 n277 hp277 => ?_)
          obtain ⟨rfl, rfl, rfl⟩ := hp277
          refine aw_goto (tgt := 317) dX11_readPlainRows_280 (by decide) ?_
          exact aw_lv _ (List.forall_mem_cons.mpr ⟨rfl, (List.forall_mem_cons.mpr ⟨rfl, (List.forall_mem_cons.mpr ⟨rfl, (List.forall_mem_cons.mpr ⟨rfl, (List.forall_mem_cons.mpr ⟨rfl, (List.forall_mem_cons.mpr ⟨rfl, (List.forall_mem_cons.mpr ⟨rfl, (List.forall_mem_cons.mpr ⟨rfl, fun _ h => absurd h List.not_mem_nil⟩)⟩)⟩)⟩)⟩)⟩)⟩)⟩) (b_X11_readPlainRows_317 mo mw ms mt mu dd wi hi sp ta li sr co hb n hms k20 hk20 k55 hk55 v1 v2 v3 v4 v5 v6 ((mr_one mr) / 8) (F_X11_mix (F_X11_fifth (((z227).toInt32 >>> ((10 : Int32) &&& 31)) &&& 31)) (F_X11_fifth (((z227).toInt32 >>> ((5 : Int32) &&& 31)) &&& 31)) (F_X11_fifth ((z227).toInt32 &&& 31)) 255) (((mr_gw mr) * v4) + v6) s213 gt _ hE hF)
      · replace hE := fit hE c216
        refine aw_iconst (v := 0) dX11_readPlainRows_219 (by decide) ?_
        exact aw_zret dX11_readPlainRows_220 rfl (narB (by decide)) (Nat.zero_le _) (Nat.zero_le _) (Nat.zero_le _) (Nat.zero_le _) ⟨_, _, hE.symm, rfl, rfl, rfl⟩
    · replace hE := fif hE c82
      refine aw_bipush (v := 8) dX11_readPlainRows_85 (by decide) ?_
      refine aw_aload_n dX11_readPlainRows_87 rfl ?_
      refine aw_getf (v := .int (mr_one mr)) dX11_readPlainRows_88 flX11_130_10 at_mod rfl ?_
      obtain ⟨g91, hE⟩ := fgd hE hF
      refine aw_idiv dX11_readPlainRows_91 g91 ?_
      refine aw_istore (lv2 := [(8, _), (7, _), (0, _), (1, _), (2, _), (3, _), (4, _), (5, _), (6, _)]) dX11_readPlainRows_92 (by decide) rfl ?_
      refine aw_iload dX11_readPlainRows_94 rfl ?_
      refine aw_iload dX11_readPlainRows_96 rfl ?_
      obtain ⟨g98, hE⟩ := fgd hE hF
      refine aw_irem dX11_readPlainRows_98 g98 ?_
      refine aw_if_ne (tgt := 122) dX11_readPlainRows_99 (by decide) (fun c99 => ?_) (fun c99 => ?_)
      · replace hE := fif hE c99
        exact aw_lv _ (List.forall_mem_cons.mpr ⟨rfl, (List.forall_mem_cons.mpr ⟨rfl, (List.forall_mem_cons.mpr ⟨rfl, (List.forall_mem_cons.mpr ⟨rfl, (List.forall_mem_cons.mpr ⟨rfl, (List.forall_mem_cons.mpr ⟨rfl, (List.forall_mem_cons.mpr ⟨rfl, (List.forall_mem_cons.mpr ⟨rfl, (List.forall_mem_cons.mpr ⟨rfl, fun _ h => absurd h List.not_mem_nil⟩)⟩)⟩)⟩)⟩)⟩)⟩)⟩)⟩) (b_X11_readPlainRows_122 mo mw ms mt mu dd wi hi sp ta li sr co hb n hms k20 hk20 k55 hk55 v1 v2 v3 v4 v5 v6 (((mr_gw mr) * v4) + v6) (8 / (mr_one mr)) mr gt _ hE hF)
      · replace hE := fit hE c99
        refine aw_aload_n dX11_readPlainRows_102 rfl ?_
        refine aw_iconst (v := 1) dX11_readPlainRows_103 (by decide) ?_
        refine aw_callV dX11_readPlainRows_104 at_mod cvX11_103 rfl (kF_X11_want mo mw mr ms mt mu dd wi hi gt sp ta li sr co hb _  1 (fon_ne hE hF)) rfl (Nat.le_of_ble_eq_true rfl) (by decide) (by decide) (by decide) (by decide) (fun _ _ _ hf => False.elim hf) (fun r104 h104 n104 hp104 => ?_)
        obtain ⟨z104, s104, e104, rfl, rfl, rfl⟩ := hp104
        replace hE := fon_ok e104 hE
        refine aw_if_ne (tgt := 112) dX11_readPlainRows_107 (by decide) (fun c107 => ?_) (fun c107 => ?_)
        · replace hE := fif hE c107
          refine aw_aload_n dX11_readPlainRows_112 rfl ?_
          refine aw_dup dX11_readPlainRows_113 rfl ?_
          refine aw_getf (v := .int (mr_pos s104)) dX11_readPlainRows_114 flX11_84_10 at_mod rfl ?_
          refine aw_iconst (v := 1) dX11_readPlainRows_117 (by decide) ?_
          refine aw_iadd dX11_readPlainRows_118 ?_
          refine aw_putf dX11_readPlainRows_119 ptX11_84_10 at_mod (Nat.le_of_ble_eq_true rfl) ⟨rfl, rfl⟩ ?_
          refine aw_eqh (h2 := HM mo mw ((mr_size s104), ((mr_pos s104) + 1), (mr_kind s104), (mr_whr s104), (mr_gw s104), (mr_gh s104), (mr_one s104), (mr_two s104), (mr_three s104)) ms mt mu dd wi hi gt sp ta li sr co hb) up_mod ?_
          exact aw_lv _ (List.forall_mem_cons.mpr ⟨rfl, (List.forall_mem_cons.mpr ⟨rfl, (List.forall_mem_cons.mpr ⟨rfl, (List.forall_mem_cons.mpr ⟨rfl, (List.forall_mem_cons.mpr ⟨rfl, (List.forall_mem_cons.mpr ⟨rfl, (List.forall_mem_cons.mpr ⟨rfl, (List.forall_mem_cons.mpr ⟨rfl, (List.forall_mem_cons.mpr ⟨rfl, fun _ h => absurd h List.not_mem_nil⟩)⟩)⟩)⟩)⟩)⟩)⟩)⟩)⟩) (b_X11_readPlainRows_122 mo mw ms mt mu dd wi hi sp ta li sr co hb n hms k20 hk20 k55 hk55 v1 v2 v3 v4 v5 v6 (((mr_gw mr) * v4) + v6) (8 / (mr_one mr)) ((mr_size s104), ((mr_pos s104) + 1), (mr_kind s104), (mr_whr s104), (mr_gw s104), (mr_gh s104), (mr_one s104), (mr_two s104), (mr_three s104)) gt _ hE hF)
        · replace hE := fit hE c107
          refine aw_iconst (v := 0) dX11_readPlainRows_110 (by decide) ?_
          exact aw_zret dX11_readPlainRows_111 rfl (narB (by decide)) (Nat.zero_le _) (Nat.zero_le _) (Nat.zero_le _) (Nat.zero_le _) ⟨_, _, hE.symm, rfl, rfl, rfl⟩
def F_X11_readPlainRows_44 (sb : A) (ta : A) (k20 : Int32 → Int32 → Int32 → MR → A → Out (MR × A) Int32) (v1 : Int32) (v2 : Int32) (v3 : Int32) (t0 : Int32) (mr : MR) (gt : A) : Out (MR × A) Int32 := lp (fun _ _ _ _ _ _ _ _ => fno) (F_X11_readPlainRows_55 sb ta k20) FU v1 v2 v3 t0 (mr_pos mr) (0 : Int32) mr gt
set_option maxHeartbeats 1000000 in
set_option maxRecDepth 100000 in
theorem b_X11_readPlainRows_44 (mo : MO) (mw : MW) (ms : Nat) (mt : A) (mu : A) (dd : A) (wi : A) (hi : A) (sp : A) (ta : A) (li : A) (sr : A) (co : A) (hb : aH) (n : Nat) (hms : isMS ms) (k20 : Int32 → Int32 → Int32 → MR → A → Out (MR × A) Int32) (hk20 : Q_X11_readPlainRows_20 mo mw ms mt mu dd wi hi sp ta li sr co hb n k20) : Q_X11_readPlainRows_44 mo mw ms mt mu dd wi hi sp ta li sr co hb n (F_X11_readPlainRows_44 (srcB ms mt mu) ta k20) := by
  intro v1 v2 v3 t0 mr gt res hE hF
  unfold F_X11_readPlainRows_44 at hE
  refine aw_istore (lv2 := [(4, _), (0, _), (1, _), (2, _), (3, _)]) dX11_readPlainRows_44 (by decide) rfl ?_
  refine aw_aload_n dX11_readPlainRows_46 rfl ?_
  refine aw_getf (v := .int (mr_pos mr)) dX11_readPlainRows_47 flX11_84_10 at_mod rfl ?_
  refine aw_istore (lv2 := [(5, _), (4, _), (0, _), (1, _), (2, _), (3, _)]) dX11_readPlainRows_50 (by decide) rfl ?_
  refine aw_iconst (v := 0) dX11_readPlainRows_52 (by decide) ?_
  refine aw_istore (lv2 := [(6, _), (5, _), (4, _), (0, _), (1, _), (2, _), (3, _)]) dX11_readPlainRows_53 (by decide) rfl ?_
  exact aw_lv _ (List.forall_mem_cons.mpr ⟨rfl, (List.forall_mem_cons.mpr ⟨rfl, (List.forall_mem_cons.mpr ⟨rfl, (List.forall_mem_cons.mpr ⟨rfl, (List.forall_mem_cons.mpr ⟨rfl, (List.forall_mem_cons.mpr ⟨rfl, (List.forall_mem_cons.mpr ⟨rfl, fun _ h => absurd h List.not_mem_nil⟩)⟩)⟩)⟩)⟩)⟩)⟩) (lp_ind (Q_X11_readPlainRows_55 mo mw ms mt mu dd wi hi sp ta li sr co hb n) (fun _ _ _ _ _ _ _ _ res hq hF => (hF hq.symm).elim) (fun k hk => b_X11_readPlainRows_55 mo mw ms mt mu dd wi hi sp ta li sr co hb n hms k20 hk20 k hk) FU v1 v2 v3 t0 (mr_pos mr) (0 : Int32) mr gt _ hE hF)
def F_X11_readPlainRows_20 (sb : A) (ta : A) (k20 : Int32 → Int32 → Int32 → MR → A → Out (MR × A) Int32) (v1 : Int32) (v2 : Int32) (v3 : Int32) (mr : MR) (gt : A) : Out (MR × A) Int32 := if (mr_gh mr) ≤ v3 then (fon (F_X11_closes mr) (fun z375 s375 => if isB z375 then (fok (z375 : Int32) (s375, gt)) else fno) (fun _ _ => fno)) else (if v1 = 0 then (F_X11_readPlainRows_44 sb ta k20 v1 v2 v3 (((mr_gh mr) - 1) - v3) mr gt) else (F_X11_readPlainRows_44 sb ta k20 v1 v2 v3 v3 mr gt))
set_option maxHeartbeats 1000000 in
set_option maxRecDepth 100000 in
theorem b_X11_readPlainRows_20 (mo : MO) (mw : MW) (ms : Nat) (mt : A) (mu : A) (dd : A) (wi : A) (hi : A) (sp : A) (ta : A) (li : A) (sr : A) (co : A) (hb : aH) (n : Nat) (hms : isMS ms) (k20 : Int32 → Int32 → Int32 → MR → A → Out (MR × A) Int32) (hk20 : Q_X11_readPlainRows_20 mo mw ms mt mu dd wi hi sp ta li sr co hb n k20) : Q_X11_readPlainRows_20 mo mw ms mt mu dd wi hi sp ta li sr co hb n (F_X11_readPlainRows_20 (srcB ms mt mu) ta k20) := by
  intro v1 v2 v3 mr gt res hE hF
  unfold F_X11_readPlainRows_20 at hE
  refine aw_iload_n dX11_readPlainRows_20 rfl ?_
  refine aw_aload_n dX11_readPlainRows_21 rfl ?_
  refine aw_getf (v := .int (mr_gh mr)) dX11_readPlainRows_22 flX11_112_10 at_mod rfl ?_
  refine aw_icmp_ge (tgt := 374) dX11_readPlainRows_25 (by decide) (fun c25 => ?_) (fun c25 => ?_)
  · replace hE := fit hE c25
    refine aw_aload_n dX11_readPlainRows_374 rfl ?_
    refine aw_callV dX11_readPlainRows_375 at_mod cvX11_145 rfl (kF_X11_closes mo mw mr ms mt mu dd wi hi gt sp ta li sr co hb _   (fon_ne hE hF)) rfl (Nat.le_of_ble_eq_true rfl) (by decide) (by decide) (by decide) (by decide) (fun _ _ _ hf => False.elim hf) (fun r375 h375 n375 hp375 => ?_)
    obtain ⟨z375, s375, e375, rfl, rfl, rfl⟩ := hp375
    replace hE := fon_ok e375 hE
    obtain ⟨g378, hE⟩ := fgd hE hF
    exact aw_zret dX11_readPlainRows_378 rfl (narB g378) (Nat.zero_le _) (Nat.zero_le _) (Nat.zero_le _) (Nat.zero_le _) ⟨_, _, hE.symm, rfl, rfl, rfl⟩
  · replace hE := fif hE c25
    refine aw_iload_n dX11_readPlainRows_28 rfl ?_
    refine aw_if_eq (tgt := 36) dX11_readPlainRows_29 (by decide) (fun c29 => ?_) (fun c29 => ?_)
    · replace hE := fit hE c29
      refine aw_aload_n dX11_readPlainRows_36 rfl ?_
      refine aw_getf (v := .int (mr_gh mr)) dX11_readPlainRows_37 flX11_112_10 at_mod rfl ?_
      refine aw_iconst (v := 1) dX11_readPlainRows_40 (by decide) ?_
      refine aw_isub dX11_readPlainRows_41 ?_
      refine aw_iload_n dX11_readPlainRows_42 rfl ?_
      refine aw_isub dX11_readPlainRows_43 ?_
      exact aw_lv _ (List.forall_mem_cons.mpr ⟨rfl, (List.forall_mem_cons.mpr ⟨rfl, (List.forall_mem_cons.mpr ⟨rfl, (List.forall_mem_cons.mpr ⟨rfl, fun _ h => absurd h List.not_mem_nil⟩)⟩)⟩)⟩) (b_X11_readPlainRows_44 mo mw ms mt mu dd wi hi sp ta li sr co hb n hms k20 hk20 v1 v2 v3 (((mr_gh mr) - 1) - v3) mr gt _ hE hF)
    · replace hE := fif hE c29
      refine aw_iload_n dX11_readPlainRows_32 rfl ?_
      refine aw_goto (tgt := 44) dX11_readPlainRows_33 (by decide) ?_
      exact aw_lv _ (List.forall_mem_cons.mpr ⟨rfl, (List.forall_mem_cons.mpr ⟨rfl, (List.forall_mem_cons.mpr ⟨rfl, (List.forall_mem_cons.mpr ⟨rfl, fun _ h => absurd h List.not_mem_nil⟩)⟩)⟩)⟩) (b_X11_readPlainRows_44 mo mw ms mt mu dd wi hi sp ta li sr co hb n hms k20 hk20 v1 v2 v3 v3 mr gt _ hE hF)
def F_X11_readPlainRows (a1 : Int32) (sb : A) (mr : MR) (gt : A) (ta : A) : Out (MR × A) Int32 := lp (fun _ _ _ _ _ => fno) (F_X11_readPlainRows_20 sb ta) FU a1 (((((mr_gw mr) * (mr_one mr)) + 31) / 32) * 4) (0 : Int32) mr gt
set_option maxHeartbeats 1000000 in
set_option maxRecDepth 100000 in
theorem kF_X11_readPlainRows (mo : MO) (mw : MW) (mr : MR) (ms : Nat) (mt : A) (mu : A) (dd : A) (wi : A) (hi : A) (gt : A) (sp : A) (ta : A) (li : A) (sr : A) (co : A) (hb : aH) (n : Nat) (hms : isMS ms) (a1 : Int32) (hF : F_X11_readPlainRows a1 (srcB ms mt mu) mr gt ta ≠ fno) : AM mX11_readPlainRows 3 [.ref 31, .int a1] (HM mo mw mr ms mt mu dd wi hi gt sp ta li sr co hb) n 0 0 0 0 (P_X11_readPlainRows mo mw ms mt mu dd wi hi sp ta li sr co hb n (F_X11_readPlainRows a1 (srcB ms mt mu) mr gt ta)) (fun _ _ _ => False) := by
  generalize hE : F_X11_readPlainRows a1 (srcB ms mt mu) mr gt ta = res at hF ⊢
  refine aw_of (by decide +kernel) rfl (Nat.le_of_ble_eq_true rfl) ?_
  unfold F_X11_readPlainRows at hE
  refine aw_aload_n dX11_readPlainRows_0 rfl ?_
  refine aw_getf (v := .int (mr_gw mr)) dX11_readPlainRows_1 flX11_109_10 at_mod rfl ?_
  refine aw_aload_n dX11_readPlainRows_4 rfl ?_
  refine aw_getf (v := .int (mr_one mr)) dX11_readPlainRows_5 flX11_130_10 at_mod rfl ?_
  refine aw_imul dX11_readPlainRows_8 ?_
  refine aw_bipush (v := 31) dX11_readPlainRows_9 (by decide) ?_
  refine aw_iadd dX11_readPlainRows_11 ?_
  refine aw_bipush (v := 32) dX11_readPlainRows_12 (by decide) ?_
  refine aw_idiv dX11_readPlainRows_14 (by decide) ?_
  refine aw_iconst (v := 4) dX11_readPlainRows_15 (by decide) ?_
  refine aw_imul dX11_readPlainRows_16 ?_
  refine aw_istore_n (lv2 := [(2, _), (0, _), (1, _)]) dX11_readPlainRows_17 (by decide) rfl ?_
  refine aw_iconst (v := 0) dX11_readPlainRows_18 (by decide) ?_
  refine aw_istore_n (lv2 := [(3, _), (2, _), (0, _), (1, _)]) dX11_readPlainRows_19 (by decide) rfl ?_
  exact aw_lv _ (List.forall_mem_cons.mpr ⟨rfl, (List.forall_mem_cons.mpr ⟨rfl, (List.forall_mem_cons.mpr ⟨rfl, (List.forall_mem_cons.mpr ⟨rfl, fun _ h => absurd h List.not_mem_nil⟩)⟩)⟩)⟩) (lp_ind (Q_X11_readPlainRows_20 mo mw ms mt mu dd wi hi sp ta li sr co hb n) (fun _ _ _ _ _ res hq hF => (hF hq.symm).elim) (fun k hk => b_X11_readPlainRows_20 mo mw ms mt mu dd wi hi sp ta li sr co hb n hms  k hk) FU a1 (((((mr_gw mr) * (mr_one mr)) + 31) / 32) * 4) (0 : Int32) mr gt _ hE hF)
