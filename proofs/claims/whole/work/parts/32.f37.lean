def P_X11_readRows (mo : MO) (mw : MW) (ms : Nat) (mt : A) (mu : A) (dd : A) (wi : A) (hi : A) (sp : A) (li : A) (sr : A) (co : A) (hb : aH) (n : Nat) (res : Out (MR × A × A) Int32) : Option Value → aH → Nat → Prop := fun r1 h2 n2 => ∃ (a : Int32) (s : (MR × A × A)), res = fok a s ∧ r1 = some (.int a) ∧ h2 = HM mo mw s.1 ms mt mu dd wi hi s.2.1 sp s.2.2 li sr co hb ∧ n = n2
abbrev Q_X11_readRows_18 (mo : MO) (mw : MW) (ms : Nat) (mt : A) (mu : A) (dd : A) (wi : A) (hi : A) (sp : A) (li : A) (sr : A) (co : A) (hb : aH) (n : Nat) (k : MR → A → A → Out (MR × A × A) Int32) : Prop := ∀ (mr : MR) (gt : A) (ta : A) (res : Out (MR × A × A) Int32), k mr gt ta = res → res ≠ fno → AW (fun _ _ => True) mX11_readRows (rmD 4 0 0) 0 0 (P_X11_readRows mo mw ms mt mu dd wi hi sp li sr co hb n res) (fun _ _ _ => False) 0 0 18 [] [] (HM mo mw mr ms mt mu dd wi hi gt sp ta li sr co hb) n
abbrev Q_X11_readRows_242 (mo : MO) (mw : MW) (ms : Nat) (mt : A) (mu : A) (dd : A) (wi : A) (hi : A) (sp : A) (li : A) (sr : A) (co : A) (hb : aH) (n : Nat) (k : Int64 → Int32 → Int64 → Int32 → MR → A → A → Out (MR × A × A) Int32) : Prop := ∀ (v1 : Int64) (v3 : Int32) (v4 : Int64) (t0 : Int32) (mr : MR) (gt : A) (ta : A) (res : Out (MR × A × A) Int32), k v1 v3 v4 t0 mr gt ta = res → res ≠ fno → AW (fun _ _ => True) mX11_readRows (rmD 4 0 0) 0 0 (P_X11_readRows mo mw ms mt mu dd wi hi sp li sr co hb n res) (fun _ _ _ => False) 0 0 242 [(0, .ref 31), (1, .long v1), (3, .int v3), (4, .long v4)] [.int t0] (HM mo mw mr ms mt mu dd wi hi gt sp ta li sr co hb) n
abbrev Q_X11_readRows_260 (mo : MO) (mw : MW) (ms : Nat) (mt : A) (mu : A) (dd : A) (wi : A) (hi : A) (sp : A) (li : A) (sr : A) (co : A) (hb : aH) (n : Nat) (k : Int64 → Int32 → Int64 → Int64 → MR → A → A → Out (MR × A × A) Int32) : Prop := ∀ (v1 : Int64) (v6 : Int32) (t0 : Int64) (t1 : Int64) (mr : MR) (gt : A) (ta : A) (res : Out (MR × A × A) Int32), k v1 v6 t0 t1 mr gt ta = res → res ≠ fno → AW (fun _ _ => True) mX11_readRows (rmD 4 0 0) 0 0 (P_X11_readRows mo mw ms mt mu dd wi hi sp li sr co hb n res) (fun _ _ _ => False) 0 0 260 [(0, .ref 31), (1, .long v1), (6, .int v6)] [.long t0, .long t1, .ref 31] (HM mo mw mr ms mt mu dd wi hi gt sp ta li sr co hb) n
abbrev Q_X11_readRows_380 (mo : MO) (mw : MW) (ms : Nat) (mt : A) (mu : A) (dd : A) (wi : A) (hi : A) (sp : A) (li : A) (sr : A) (co : A) (hb : aH) (n : Nat) (k : Int64 → Int32 → Int32 → MR → A → A → Out (MR × A × A) Int32) : Prop := ∀ (v1 : Int64) (v6 : Int32) (v7 : Int32) (mr : MR) (gt : A) (ta : A) (res : Out (MR × A × A) Int32), k v1 v6 v7 mr gt ta = res → res ≠ fno → AW (fun _ _ => True) mX11_readRows (rmD 4 0 0) 0 0 (P_X11_readRows mo mw ms mt mu dd wi hi sp li sr co hb n res) (fun _ _ _ => False) 0 0 380 [(0, .ref 31), (1, .long v1), (6, .int v6), (7, .int v7)] [] (HM mo mw mr ms mt mu dd wi hi gt sp ta li sr co hb) n
abbrev Q_X11_readRows_431 (mo : MO) (mw : MW) (ms : Nat) (mt : A) (mu : A) (dd : A) (wi : A) (hi : A) (sp : A) (li : A) (sr : A) (co : A) (hb : aH) (n : Nat) (k : Int64 → Int32 → Int32 → Int64 → MR → A → A → Out (MR × A × A) Int32) : Prop := ∀ (v1 : Int64) (v6 : Int32) (v7 : Int32) (v8 : Int64) (mr : MR) (gt : A) (ta : A) (res : Out (MR × A × A) Int32), k v1 v6 v7 v8 mr gt ta = res → res ≠ fno → AW (fun _ _ => True) mX11_readRows (rmD 4 0 0) 0 0 (P_X11_readRows mo mw ms mt mu dd wi hi sp li sr co hb n res) (fun _ _ _ => False) 0 0 431 [(0, .ref 31), (1, .long v1), (6, .int v6), (7, .int v7), (8, .long v8)] [] (HM mo mw mr ms mt mu dd wi hi gt sp ta li sr co hb) n
abbrev Q_X11_readRows_446 (mo : MO) (mw : MW) (ms : Nat) (mt : A) (mu : A) (dd : A) (wi : A) (hi : A) (sp : A) (li : A) (sr : A) (co : A) (hb : aH) (n : Nat) (k : MR → A → A → Out (MR × A × A) Int32) : Prop := ∀ (mr : MR) (gt : A) (ta : A) (res : Out (MR × A × A) Int32), k mr gt ta = res → res ≠ fno → AW (fun _ _ => True) mX11_readRows (rmD 4 0 0) 0 0 (P_X11_readRows mo mw ms mt mu dd wi hi sp li sr co hb n res) (fun _ _ _ => False) 0 0 446 [(0, .ref 31)] [] (HM mo mw mr ms mt mu dd wi hi gt sp ta li sr co hb) n
abbrev Q_X11_readRows_454 (mo : MO) (mw : MW) (ms : Nat) (mt : A) (mu : A) (dd : A) (wi : A) (hi : A) (sp : A) (li : A) (sr : A) (co : A) (hb : aH) (n : Nat) (k : Int64 → Int32 → Int32 → Int64 → MR → A → A → Out (MR × A × A) Int32) : Prop := ∀ (v1 : Int64) (v6 : Int32) (v7 : Int32) (v8 : Int64) (mr : MR) (gt : A) (ta : A) (res : Out (MR × A × A) Int32), k v1 v6 v7 v8 mr gt ta = res → res ≠ fno → AW (fun _ _ => True) mX11_readRows (rmD 4 0 0) 0 0 (P_X11_readRows mo mw ms mt mu dd wi hi sp li sr co hb n res) (fun _ _ _ => False) 0 0 454 [(0, .ref 31), (1, .long v1), (6, .int v6), (7, .int v7), (8, .long v8)] [] (HM mo mw mr ms mt mu dd wi hi gt sp ta li sr co hb) n
abbrev Q_X11_readRows_485 (mo : MO) (mw : MW) (ms : Nat) (mt : A) (mu : A) (dd : A) (wi : A) (hi : A) (sp : A) (li : A) (sr : A) (co : A) (hb : aH) (n : Nat) (k : Int64 → Int32 → Int32 → Int64 → Int64 → MR → A → A → Out (MR × A × A) Int32) : Prop := ∀ (v1 : Int64) (v6 : Int32) (v7 : Int32) (v8 : Int64) (v10 : Int64) (mr : MR) (gt : A) (ta : A) (res : Out (MR × A × A) Int32), k v1 v6 v7 v8 v10 mr gt ta = res → res ≠ fno → AW (fun _ _ => True) mX11_readRows (rmD 4 0 0) 0 0 (P_X11_readRows mo mw ms mt mu dd wi hi sp li sr co hb n res) (fun _ _ _ => False) 0 0 485 [(0, .ref 31), (1, .long v1), (6, .int v6), (7, .int v7), (8, .long v8), (10, .long v10)] [] (HM mo mw mr ms mt mu dd wi hi gt sp ta li sr co hb) n
abbrev Q_X11_readRows_563 (mo : MO) (mw : MW) (ms : Nat) (mt : A) (mu : A) (dd : A) (wi : A) (hi : A) (sp : A) (li : A) (sr : A) (co : A) (hb : aH) (n : Nat) (k : MR → A → A → Out (MR × A × A) Int32) : Prop := ∀ (mr : MR) (gt : A) (ta : A) (res : Out (MR × A × A) Int32), k mr gt ta = res → res ≠ fno → AW (fun _ _ => True) mX11_readRows (rmD 4 0 0) 0 0 (P_X11_readRows mo mw ms mt mu dd wi hi sp li sr co hb n res) (fun _ _ _ => False) 0 0 563 [(0, .ref 31)] [] (HM mo mw mr ms mt mu dd wi hi gt sp ta li sr co hb) n
abbrev Q_X11_readRows_571 (mo : MO) (mw : MW) (ms : Nat) (mt : A) (mu : A) (dd : A) (wi : A) (hi : A) (sp : A) (li : A) (sr : A) (co : A) (hb : aH) (n : Nat) (k : Int64 → Int32 → Int32 → Int64 → Int64 → Int64 → MR → A → A → Out (MR × A × A) Int32) : Prop := ∀ (v1 : Int64) (v6 : Int32) (v7 : Int32) (v8 : Int64) (v10 : Int64) (v12 : Int64) (mr : MR) (gt : A) (ta : A) (res : Out (MR × A × A) Int32), k v1 v6 v7 v8 v10 v12 mr gt ta = res → res ≠ fno → AW (fun _ _ => True) mX11_readRows (rmD 4 0 0) 0 0 (P_X11_readRows mo mw ms mt mu dd wi hi sp li sr co hb n res) (fun _ _ _ => False) 0 0 571 [(0, .ref 31), (1, .long v1), (6, .int v6), (7, .int v7), (8, .long v8), (10, .long v10), (12, .long v12)] [] (HM mo mw mr ms mt mu dd wi hi gt sp ta li sr co hb) n
abbrev Q_X11_readRows_591 (mo : MO) (mw : MW) (ms : Nat) (mt : A) (mu : A) (dd : A) (wi : A) (hi : A) (sp : A) (li : A) (sr : A) (co : A) (hb : aH) (n : Nat) (k : Int64 → Int32 → Int32 → Int64 → Int64 → Int64 → MR → A → A → Out (MR × A × A) Int32) : Prop := ∀ (v1 : Int64) (v6 : Int32) (v7 : Int32) (v8 : Int64) (v10 : Int64) (v12 : Int64) (mr : MR) (gt : A) (ta : A) (res : Out (MR × A × A) Int32), k v1 v6 v7 v8 v10 v12 mr gt ta = res → res ≠ fno → AW (fun _ _ => True) mX11_readRows (rmD 4 0 0) 0 0 (P_X11_readRows mo mw ms mt mu dd wi hi sp li sr co hb n res) (fun _ _ _ => False) 0 0 591 [(0, .ref 31), (1, .long v1), (6, .int v6), (7, .int v7), (8, .long v8), (10, .long v10), (12, .long v12)] [] (HM mo mw mr ms mt mu dd wi hi gt sp ta li sr co hb) n
abbrev Q_X11_readRows_632 (mo : MO) (mw : MW) (ms : Nat) (mt : A) (mu : A) (dd : A) (wi : A) (hi : A) (sp : A) (li : A) (sr : A) (co : A) (hb : aH) (n : Nat) (k : MR → A → A → Out (MR × A × A) Int32) : Prop := ∀ (mr : MR) (gt : A) (ta : A) (res : Out (MR × A × A) Int32), k mr gt ta = res → res ≠ fno → AW (fun _ _ => True) mX11_readRows (rmD 4 0 0) 0 0 (P_X11_readRows mo mw ms mt mu dd wi hi sp li sr co hb n res) (fun _ _ _ => False) 0 0 632 [(0, .ref 31)] [] (HM mo mw mr ms mt mu dd wi hi gt sp ta li sr co hb) n
abbrev Q_X11_readRows_667 (mo : MO) (mw : MW) (ms : Nat) (mt : A) (mu : A) (dd : A) (wi : A) (hi : A) (sp : A) (li : A) (sr : A) (co : A) (hb : aH) (n : Nat) (k : MR → A → A → Out (MR × A × A) Int32) : Prop := ∀ (mr : MR) (gt : A) (ta : A) (res : Out (MR × A × A) Int32), k mr gt ta = res → res ≠ fno → AW (fun _ _ => True) mX11_readRows (rmD 4 0 0) 0 0 (P_X11_readRows mo mw ms mt mu dd wi hi sp li sr co hb n res) (fun _ _ _ => False) 0 0 667 [(0, .ref 31)] [] (HM mo mw mr ms mt mu dd wi hi gt sp ta li sr co hb) n
abbrev Q_X11_readRows_675 (mo : MO) (mw : MW) (ms : Nat) (mt : A) (mu : A) (dd : A) (wi : A) (hi : A) (sp : A) (li : A) (sr : A) (co : A) (hb : aH) (n : Nat) (k : Int64 → Int32 → Int32 → Int64 → Int64 → MR → A → A → Out (MR × A × A) Int32) : Prop := ∀ (v1 : Int64) (v6 : Int32) (v7 : Int32) (v8 : Int64) (v12 : Int64) (mr : MR) (gt : A) (ta : A) (res : Out (MR × A × A) Int32), k v1 v6 v7 v8 v12 mr gt ta = res → res ≠ fno → AW (fun _ _ => True) mX11_readRows (rmD 4 0 0) 0 0 (P_X11_readRows mo mw ms mt mu dd wi hi sp li sr co hb n res) (fun _ _ _ => False) 0 0 675 [(0, .ref 31), (1, .long v1), (6, .int v6), (7, .int v7), (8, .long v8), (12, .long v12)] [] (HM mo mw mr ms mt mu dd wi hi gt sp ta li sr co hb) n
abbrev Q_X11_readRows_678 (mo : MO) (mw : MW) (ms : Nat) (mt : A) (mu : A) (dd : A) (wi : A) (hi : A) (sp : A) (li : A) (sr : A) (co : A) (hb : aH) (n : Nat) (k : Int64 → Int32 → Int32 → Int64 → Int64 → Int32 → MR → A → A → Out (MR × A × A) Int32) : Prop := ∀ (v1 : Int64) (v6 : Int32) (v7 : Int32) (v8 : Int64) (v12 : Int64) (v14 : Int32) (mr : MR) (gt : A) (ta : A) (res : Out (MR × A × A) Int32), k v1 v6 v7 v8 v12 v14 mr gt ta = res → res ≠ fno → AW (fun _ _ => True) mX11_readRows (rmD 4 0 0) 0 0 (P_X11_readRows mo mw ms mt mu dd wi hi sp li sr co hb n res) (fun _ _ _ => False) 0 0 678 [(0, .ref 31), (1, .long v1), (6, .int v6), (7, .int v7), (8, .long v8), (12, .long v12), (14, .int v14)] [] (HM mo mw mr ms mt mu dd wi hi gt sp ta li sr co hb) n
def F_X11_readRows_678 (sb : A) (k678 : Int64 → Int32 → Int32 → Int64 → Int64 → Int32 → MR → A → A → Out (MR × A × A) Int32) (v1 : Int64) (v6 : Int32) (v7 : Int32) (v8 : Int64) (v12 : Int64) (v14 : Int32) (mr : MR) (gt : A) (ta : A) : Out (MR × A × A) Int32 := if 0 ≤ (lg_cmp (v14).toInt64 v12) then (if (lg_cmp v8 0) = 0 then (fon (F_X11_readPlainRows v6 sb ((mr_size mr), (v1).toInt32, (mr_kind mr), (mr_whr mr), (mr_gw mr), (mr_gh mr), v7, (v8).toInt32, (v12).toInt32) gt ta) (fun z773 s773 => if isB z773 then (fok (z773 : Int32) (s773.1, s773.2, ta)) else fno) (fun _ _ => fno)) else (fon (F_X11_readPairs sb ((mr_size mr), (v1).toInt32, (mr_kind mr), (mr_whr mr), (mr_gw mr), (mr_gh mr), v7, (v8).toInt32, (v12).toInt32) gt ta) (fun z780 s780 => if isB z780 then (fok (z780 : Int32) (s780.1, s780.2, ta)) else fno) (fun _ _ => fno))) else (fon (F_X11_b ((54 + (4 * v14)) + 2) sb) (fun z707 s707 => fon (F_X11_b ((54 + (4 * v14)) + 1) sb) (fun z715 s715 => fon (F_X11_b (54 + (4 * v14)) sb) (fun z721 s721 => if inb v14 65536 then (k678 v1 v6 v7 v8 v12 (v14 + 1) mr gt (upd ta (Int32.toNatClampNeg v14) (F_X11_mix z707 z715 z721 255))) else fno) (fun _ _ => fno)) (fun _ _ => fno)) (fun _ _ => fno))
set_option maxHeartbeats 1000000 in
set_option maxRecDepth 100000 in
theorem b_X11_readRows_678 (mo : MO) (mw : MW) (ms : Nat) (mt : A) (mu : A) (dd : A) (wi : A) (hi : A) (sp : A) (li : A) (sr : A) (co : A) (hb : aH) (n : Nat) (hms : isMS ms) (k678 : Int64 → Int32 → Int32 → Int64 → Int64 → Int32 → MR → A → A → Out (MR × A × A) Int32) (hk678 : Q_X11_readRows_678 mo mw ms mt mu dd wi hi sp li sr co hb n k678) : Q_X11_readRows_678 mo mw ms mt mu dd wi hi sp li sr co hb n (F_X11_readRows_678 (srcB ms mt mu) k678) := by
  intro v1 v6 v7 v8 v12 v14 mr gt ta res hE hF
  unfold F_X11_readRows_678 at hE
  refine aw_iload dX11_readRows_678 rfl ?_
  refine aw_i2l dX11_readRows_680 ?_
  refine aw_lload dX11_readRows_681 rfl ?_
  refine aw_lcmp dX11_readRows_683 ?_
  refine aw_if_ge (tgt := 737) dX11_readRows_684 (by decide) (fun c684 => ?_) (fun c684 => ?_)
  · replace hE := fit hE c684
    refine aw_aload_n dX11_readRows_737 rfl ?_
    refine aw_lload_n dX11_readRows_738 rfl ?_
    refine aw_l2i dX11_readRows_739 ?_
    refine aw_putf dX11_readRows_740 ptX11_84_10 at_mod (Nat.le_of_ble_eq_true rfl) ⟨rfl, rfl⟩ ?_
    refine aw_eqh (h2 := HM mo mw ((mr_size mr), (v1).toInt32, (mr_kind mr), (mr_whr mr), (mr_gw mr), (mr_gh mr), (mr_one mr), (mr_two mr), (mr_three mr)) ms mt mu dd wi hi gt sp ta li sr co hb) up_mod ?_
    refine aw_aload_n dX11_readRows_743 rfl ?_
    refine aw_iload dX11_readRows_744 rfl ?_
    refine aw_putf dX11_readRows_746 ptX11_130_10 at_mod (Nat.le_of_ble_eq_true rfl) ⟨rfl, rfl⟩ ?_
    refine aw_eqh (h2 := HM mo mw ((mr_size mr), (v1).toInt32, (mr_kind mr), (mr_whr mr), (mr_gw mr), (mr_gh mr), v7, (mr_two mr), (mr_three mr)) ms mt mu dd wi hi gt sp ta li sr co hb) up_mod ?_
    refine aw_aload_n dX11_readRows_749 rfl ?_
    refine aw_lload dX11_readRows_750 rfl ?_
    refine aw_l2i dX11_readRows_752 ?_
    refine aw_putf dX11_readRows_753 ptX11_133_10 at_mod (Nat.le_of_ble_eq_true rfl) ⟨rfl, rfl⟩ ?_
    refine aw_eqh (h2 := HM mo mw ((mr_size mr), (v1).toInt32, (mr_kind mr), (mr_whr mr), (mr_gw mr), (mr_gh mr), v7, (v8).toInt32, (mr_three mr)) ms mt mu dd wi hi gt sp ta li sr co hb) up_mod ?_
    refine aw_aload_n dX11_readRows_756 rfl ?_
    refine aw_lload dX11_readRows_757 rfl ?_
    refine aw_l2i dX11_readRows_759 ?_
    refine aw_putf dX11_readRows_760 ptX11_136_10 at_mod (Nat.le_of_ble_eq_true rfl) ⟨rfl, rfl⟩ ?_
    refine aw_eqh (h2 := HM mo mw ((mr_size mr), (v1).toInt32, (mr_kind mr), (mr_whr mr), (mr_gw mr), (mr_gh mr), v7, (v8).toInt32, (v12).toInt32) ms mt mu dd wi hi gt sp ta li sr co hb) up_mod ?_
    refine aw_lload dX11_readRows_763 rfl ?_
    refine aw_lconst (v := 0) dX11_readRows_765 (by decide) ?_
    refine aw_lcmp dX11_readRows_766 ?_
    refine aw_if_ne (tgt := 779) dX11_readRows_767 (by decide) (fun c767 => ?_) (fun c767 => ?_)
    · replace hE := fif hE c767
      refine aw_aload_n dX11_readRows_779 rfl ?_
      refine aw_callV dX11_readRows_780 at_mod cvX11_198 rfl (kF_X11_readPairs mo mw ((mr_size mr), (v1).toInt32, (mr_kind mr), (mr_whr mr), (mr_gw mr), (mr_gh mr), v7, (v8).toInt32, (v12).toInt32) ms mt mu dd wi hi gt sp ta li sr co hb _ hms  (fon_ne hE hF)) rfl (Nat.le_of_ble_eq_true rfl) (by decide) (by decide) (by decide) (by decide) (fun _ _ _ hf => False.elim hf) (fun r780 h780 n780 hp780 => ?_)
      obtain ⟨z780, s780, e780, rfl, rfl, rfl⟩ := hp780
      replace hE := fon_ok e780 hE
      obtain ⟨g783, hE⟩ := fgd hE hF
      exact aw_zret dX11_readRows_783 rfl (narB g783) (Nat.zero_le _) (Nat.zero_le _) (Nat.zero_le _) (Nat.zero_le _) ⟨_, _, hE.symm, rfl, rfl, rfl⟩
    · replace hE := fit hE c767
      refine aw_aload_n dX11_readRows_770 rfl ?_
      refine aw_iload dX11_readRows_771 rfl ?_
      refine aw_callV dX11_readRows_773 at_mod cvX11_194 rfl (kF_X11_readPlainRows mo mw ((mr_size mr), (v1).toInt32, (mr_kind mr), (mr_whr mr), (mr_gw mr), (mr_gh mr), v7, (v8).toInt32, (v12).toInt32) ms mt mu dd wi hi gt sp ta li sr co hb _ hms v6 (fon_ne hE hF)) rfl (Nat.le_of_ble_eq_true rfl) (by decide) (by decide) (by decide) (by decide) (fun _ _ _ hf => False.elim hf) (fun r773 h773 n773 hp773 => ?_)
      obtain ⟨z773, s773, e773, rfl, rfl, rfl⟩ := hp773
      replace hE := fon_ok e773 hE
      refine aw_goto (tgt := 783) dX11_readRows_776 (by decide) ?_
      obtain ⟨g783, hE⟩ := fgd hE hF
      exact aw_zret dX11_readRows_783 rfl (narB g783) (Nat.zero_le _) (Nat.zero_le _) (Nat.zero_le _) (Nat.zero_le _) ⟨_, _, hE.symm, rfl, rfl, rfl⟩
  · replace hE := fif hE c684
    refine aw_bipush (v := 54) dX11_readRows_687 (by decide) ?_
    refine aw_iconst (v := 4) dX11_readRows_689 (by decide) ?_
    refine aw_iload dX11_readRows_690 rfl ?_
    refine aw_imul dX11_readRows_692 ?_
    refine aw_iadd dX11_readRows_693 ?_
    refine aw_istore (lv2 := [(15, _), (0, _), (1, _), (6, _), (7, _), (8, _), (12, _), (14, _)]) dX11_readRows_694 (by decide) rfl ?_
    refine aw_aload_n dX11_readRows_696 rfl ?_
    refine aw_getf (v := .ref 39) dX11_readRows_697 flX11_49_10 at_mod rfl ?_
    refine aw_iload dX11_readRows_700 rfl ?_
    refine aw_aload_n dX11_readRows_702 rfl ?_
    refine aw_iload dX11_readRows_703 rfl ?_
    refine aw_iconst (v := 2) dX11_readRows_705 (by decide) ?_
    refine aw_iadd dX11_readRows_706 ?_
    refine aw_callV dX11_readRows_707 at_mod cvX11_99 rfl (kF_X11_b mo mw mr ms mt mu dd wi hi gt sp ta li sr co hb _ hms ((54 + (4 * v14)) + 2) (fon_ne hE hF)) rfl (Nat.le_of_ble_eq_true rfl) (by decide) (by decide) (by decide) (by decide) (fun _ _ _ hf => False.elim hf) (fun r707 h707 n707 hp707 => ?_)
    obtain ⟨z707, s707, e707, rfl, rfl, rfl⟩ := hp707
    replace hE := fon_ok e707 hE
    refine aw_aload_n dX11_readRows_710 rfl ?_
    refine aw_iload dX11_readRows_711 rfl ?_
    refine aw_iconst (v := 1) dX11_readRows_713 (by decide) ?_
    refine aw_iadd dX11_readRows_714 ?_
    refine aw_callV dX11_readRows_715 at_mod cvX11_99 rfl (kF_X11_b mo mw mr ms mt mu dd wi hi gt sp ta li sr co hb _ hms ((54 + (4 * v14)) + 1) (fon_ne hE hF)) rfl (Nat.le_of_ble_eq_true rfl) (by decide) (by decide) (by decide) (by decide) (fun _ _ _ hf => False.elim hf) (fun r715 h715 n715 hp715 => ?_)
    obtain ⟨z715, s715, e715, rfl, rfl, rfl⟩ := hp715
    replace hE := fon_ok e715 hE
    refine aw_aload_n dX11_readRows_718 rfl ?_
    refine aw_iload dX11_readRows_719 rfl ?_
    refine aw_callV dX11_readRows_721 at_mod cvX11_99 rfl (kF_X11_b mo mw mr ms mt mu dd wi hi gt sp ta li sr co hb _ hms (54 + (4 * v14)) (fon_ne hE hF)) rfl (Nat.le_of_ble_eq_true rfl) (by decide) (by decide) (by decide) (by decide) (fun _ _ _ hf => False.elim hf) (fun r721 h721 n721 hp721 => ?_)
    obtain ⟨z721, s721, e721, rfl, rfl, rfl⟩ := hp721
    replace hE := fon_ok e721 hE
    refine aw_sipush (v := 255) dX11_readRows_724 (by decide) ?_
    refine aw_callS dX11_readRows_727  csX11_115 rfl (kF_X11_mix _ _ z707 z715 z721 255) rfl (Nat.le_of_ble_eq_true rfl) (by decide) (by decide) (by decide) (by decide) (fun _ _ _ hf => False.elim hf) (fun r727 h727 n727 hp727 => ?_)
    obtain ⟨rfl, rfl, rfl⟩ := hp727
    obtain ⟨g730, hE⟩ := fgd hE hF
    refine aw_iast (f := ta) dX11_readRows_730 at_mtable (vp_in_iff.mpr g730) ?_
    refine aw_eqh (h2 := HM mo mw mr ms mt mu dd wi hi gt sp (upd ta (Int32.toNatClampNeg v14) (F_X11_mix z707 z715 z721 255)) li sr co hb) up_mtable ?_
    refine aw_iinc (v := (v14 + 1)) (lv2 := [(14, _), (15, _), (0, _), (1, _), (6, _), (7, _), (8, _), (12, _)]) dX11_readRows_731 rfl (incE (by decide)) (by decide) rfl ?_
    refine aw_goto (tgt := 678) dX11_readRows_734 (by decide) ?_
    exact aw_lv _ (List.forall_mem_cons.mpr ⟨rfl, (List.forall_mem_cons.mpr ⟨rfl, (List.forall_mem_cons.mpr ⟨rfl, (List.forall_mem_cons.mpr ⟨rfl, (List.forall_mem_cons.mpr ⟨rfl, (List.forall_mem_cons.mpr ⟨rfl, (List.forall_mem_cons.mpr ⟨rfl, fun _ h => absurd h List.not_mem_nil⟩)⟩)⟩)⟩)⟩)⟩)⟩) (hk678 v1 v6 v7 v8 v12 (v14 + 1) mr gt (upd ta (Int32.toNatClampNeg v14) (F_X11_mix z707 z715 z721 255)) _ hE hF)
def F_X11_readRows_675 (sb : A)  (v1 : Int64) (v6 : Int32) (v7 : Int32) (v8 : Int64) (v12 : Int64) (mr : MR) (gt : A) (ta : A) : Out (MR × A × A) Int32 := lp (fun _ _ _ _ _ _ _ _ _ => fno) (F_X11_readRows_678 sb) FU v1 v6 v7 v8 v12 (0 : Int32) mr gt ta
set_option maxHeartbeats 1000000 in
set_option maxRecDepth 100000 in
theorem b_X11_readRows_675 (mo : MO) (mw : MW) (ms : Nat) (mt : A) (mu : A) (dd : A) (wi : A) (hi : A) (sp : A) (li : A) (sr : A) (co : A) (hb : aH) (n : Nat) (hms : isMS ms)  : Q_X11_readRows_675 mo mw ms mt mu dd wi hi sp li sr co hb n (F_X11_readRows_675 (srcB ms mt mu)) := by
  intro v1 v6 v7 v8 v12 mr gt ta res hE hF
  unfold F_X11_readRows_675 at hE
  refine aw_iconst (v := 0) dX11_readRows_675 (by decide) ?_
  refine aw_istore (lv2 := [(14, _), (0, _), (1, _), (6, _), (7, _), (8, _), (12, _)]) dX11_readRows_676 (by decide) rfl ?_
  exact aw_lv _ (List.forall_mem_cons.mpr ⟨rfl, (List.forall_mem_cons.mpr ⟨rfl, (List.forall_mem_cons.mpr ⟨rfl, (List.forall_mem_cons.mpr ⟨rfl, (List.forall_mem_cons.mpr ⟨rfl, (List.forall_mem_cons.mpr ⟨rfl, (List.forall_mem_cons.mpr ⟨rfl, fun _ h => absurd h List.not_mem_nil⟩)⟩)⟩)⟩)⟩)⟩)⟩) (lp_ind (Q_X11_readRows_678 mo mw ms mt mu dd wi hi sp li sr co hb n) (fun _ _ _ _ _ _ _ _ _ res hq hF => (hF hq.symm).elim) (fun k hk => b_X11_readRows_678 mo mw ms mt mu dd wi hi sp li sr co hb n hms  k hk) FU v1 v6 v7 v8 v12 (0 : Int32) mr gt ta _ hE hF)
def F_X11_readRows_667 (sb : A)  (mr : MR) (gt : A) (ta : A) : Out (MR × A × A) Int32 := fon (F_X11_wrong 2 34 mr) (fun z671 s671 => if isB z671 then (fok (z671 : Int32) (s671, gt, ta)) else fno) (fun _ _ => fno)
set_option maxHeartbeats 1000000 in
set_option maxRecDepth 100000 in
theorem b_X11_readRows_667 (mo : MO) (mw : MW) (ms : Nat) (mt : A) (mu : A) (dd : A) (wi : A) (hi : A) (sp : A) (li : A) (sr : A) (co : A) (hb : aH) (n : Nat) (hms : isMS ms)  : Q_X11_readRows_667 mo mw ms mt mu dd wi hi sp li sr co hb n (F_X11_readRows_667 (srcB ms mt mu)) := by
  intro mr gt ta res hE hF
  unfold F_X11_readRows_667 at hE
  refine aw_aload_n dX11_readRows_667 rfl ?_
  refine aw_iconst (v := 2) dX11_readRows_668 (by decide) ?_
  refine aw_bipush (v := 34) dX11_readRows_669 (by decide) ?_
  refine aw_callV dX11_readRows_671 at_mod cvX11_90 rfl (kF_X11_wrong mo mw mr ms mt mu dd wi hi gt sp ta li sr co hb _  2 34 (fon_ne hE hF)) rfl (Nat.le_of_ble_eq_true rfl) (by decide) (by decide) (by decide) (by decide) (fun _ _ _ hf => False.elim hf) (fun r671 h671 n671 hp671 => ?_)
  obtain ⟨z671, s671, e671, rfl, rfl, rfl⟩ := hp671
  replace hE := fon_ok e671 hE
  obtain ⟨g674, hE⟩ := fgd hE hF
  exact aw_zret dX11_readRows_674 rfl (narB g674) (Nat.zero_le _) (Nat.zero_le _) (Nat.zero_le _) (Nat.zero_le _) ⟨_, _, hE.symm, rfl, rfl, rfl⟩
def F_X11_readRows_632 (sb : A)  (mr : MR) (gt : A) (ta : A) : Out (MR × A × A) Int32 := fon (F_X11_wrong 2 10 mr) (fun z636 s636 => if isB z636 then (fok (z636 : Int32) (s636, gt, ta)) else fno) (fun _ _ => fno)
set_option maxHeartbeats 1000000 in
set_option maxRecDepth 100000 in
theorem b_X11_readRows_632 (mo : MO) (mw : MW) (ms : Nat) (mt : A) (mu : A) (dd : A) (wi : A) (hi : A) (sp : A) (li : A) (sr : A) (co : A) (hb : aH) (n : Nat) (hms : isMS ms)  : Q_X11_readRows_632 mo mw ms mt mu dd wi hi sp li sr co hb n (F_X11_readRows_632 (srcB ms mt mu)) := by
  intro mr gt ta res hE hF
  unfold F_X11_readRows_632 at hE
  refine aw_aload_n dX11_readRows_632 rfl ?_
  refine aw_iconst (v := 2) dX11_readRows_633 (by decide) ?_
  refine aw_bipush (v := 10) dX11_readRows_634 (by decide) ?_
  refine aw_callV dX11_readRows_636 at_mod cvX11_90 rfl (kF_X11_wrong mo mw mr ms mt mu dd wi hi gt sp ta li sr co hb _  2 10 (fon_ne hE hF)) rfl (Nat.le_of_ble_eq_true rfl) (by decide) (by decide) (by decide) (by decide) (fun _ _ _ hf => False.elim hf) (fun r636 h636 n636 hp636 => ?_)
  obtain ⟨z636, s636, e636, rfl, rfl, rfl⟩ := hp636
  replace hE := fon_ok e636 hE
  obtain ⟨g639, hE⟩ := fgd hE hF
  exact aw_zret dX11_readRows_639 rfl (narB g639) (Nat.zero_le _) (Nat.zero_le _) (Nat.zero_le _) (Nat.zero_le _) ⟨_, _, hE.symm, rfl, rfl, rfl⟩
def F_X11_readRows_591 (sb : A)  (v1 : Int64) (v6 : Int32) (v7 : Int32) (v8 : Int64) (v10 : Int64) (v12 : Int64) (mr : MR) (gt : A) (ta : A) : Out (MR × A × A) Int32 := fon (F_X11_want 4 ((mr_size mr), 50, (mr_kind mr), (mr_whr mr), (mr_gw mr), (mr_gh mr), (mr_one mr), (mr_two mr), (mr_three mr))) (fun z599 s599 => if z599 = 0 then (fok (0 : Int32) (s599, gt, ta)) else (if (lg_cmp v1 (54 + (4 * v12))) < 0 then (F_X11_readRows_632 sb s599 gt ta) else (if (lg_cmp v1 ((mr_size s599)).toInt64) ≤ 0 then (if (lg_cmp v10 (((mr_size s599)).toInt64 - v1)) = 0 then (F_X11_readRows_675 sb v1 v6 v7 v8 v12 s599 gt ta) else (if (lg_cmp v8 0) = 0 then (if (lg_cmp v10 0) = 0 then (F_X11_readRows_675 sb v1 v6 v7 v8 v12 s599 gt ta) else (F_X11_readRows_667 sb s599 gt ta)) else (F_X11_readRows_667 sb s599 gt ta))) else (F_X11_readRows_632 sb s599 gt ta)))) (fun _ _ => fno)
set_option maxHeartbeats 1000000 in
set_option maxRecDepth 100000 in
theorem b_X11_readRows_591 (mo : MO) (mw : MW) (ms : Nat) (mt : A) (mu : A) (dd : A) (wi : A) (hi : A) (sp : A) (li : A) (sr : A) (co : A) (hb : aH) (n : Nat) (hms : isMS ms)  : Q_X11_readRows_591 mo mw ms mt mu dd wi hi sp li sr co hb n (F_X11_readRows_591 (srcB ms mt mu)) := by
  intro v1 v6 v7 v8 v10 v12 mr gt ta res hE hF
  unfold F_X11_readRows_591 at hE
  refine aw_aload_n dX11_readRows_591 rfl ?_
  refine aw_bipush (v := 50) dX11_readRows_592 (by decide) ?_
  refine aw_putf dX11_readRows_594 ptX11_84_10 at_mod (Nat.le_of_ble_eq_true rfl) ⟨rfl, rfl⟩ ?_
  refine aw_eqh (h2 := HM mo mw ((mr_size mr), 50, (mr_kind mr), (mr_whr mr), (mr_gw mr), (mr_gh mr), (mr_one mr), (mr_two mr), (mr_three mr)) ms mt mu dd wi hi gt sp ta li sr co hb) up_mod ?_
  refine aw_aload_n dX11_readRows_597 rfl ?_
  refine aw_iconst (v := 4) dX11_readRows_598 (by decide) ?_
  refine aw_callV dX11_readRows_599 at_mod cvX11_103 rfl (kF_X11_want mo mw ((mr_size mr), 50, (mr_kind mr), (mr_whr mr), (mr_gw mr), (mr_gh mr), (mr_one mr), (mr_two mr), (mr_three mr)) ms mt mu dd wi hi gt sp ta li sr co hb _  4 (fon_ne hE hF)) rfl (Nat.le_of_ble_eq_true rfl) (by decide) (by decide) (by decide) (by decide) (fun _ _ _ hf => False.elim hf) (fun r599 h599 n599 hp599 => ?_)
  obtain ⟨z599, s599, e599, rfl, rfl, rfl⟩ := hp599
  replace hE := fon_ok e599 hE
  refine aw_if_ne (tgt := 607) dX11_readRows_602 (by decide) (fun c602 => ?_) (fun c602 => ?_)
  · replace hE := fif hE c602
    refine aw_lload_n dX11_readRows_607 rfl ?_
    refine aw_ldc2 dX11_readRows_608 kcX11_190 ?_
    refine aw_ldc2 dX11_readRows_611 kcX11_192 ?_
    refine aw_lload dX11_readRows_614 rfl ?_
    refine aw_lmul dX11_readRows_616 ?_
    refine aw_ladd dX11_readRows_617 ?_
    refine aw_lcmp dX11_readRows_618 ?_
    refine aw_if_lt (tgt := 632) dX11_readRows_619 (by decide) (fun c619 => ?_) (fun c619 => ?_)
    · replace hE := fit hE c619
      exact aw_lv _ (List.forall_mem_cons.mpr ⟨rfl, fun _ h => absurd h List.not_mem_nil⟩) (b_X11_readRows_632 mo mw ms mt mu dd wi hi sp li sr co hb n hms  s599 gt ta _ hE hF)
    · replace hE := fif hE c619
      refine aw_lload_n dX11_readRows_622 rfl ?_
      refine aw_aload_n dX11_readRows_623 rfl ?_
      refine aw_getf (v := .int (mr_size s599)) dX11_readRows_624 flX11_87_10 at_mod rfl ?_
      refine aw_i2l dX11_readRows_627 ?_
      refine aw_lcmp dX11_readRows_628 ?_
      refine aw_if_le (tgt := 640) dX11_readRows_629 (by decide) (fun c629 => ?_) (fun c629 => ?_)
      · replace hE := fit hE c629
        refine aw_lload dX11_readRows_640 rfl ?_
        refine aw_aload_n dX11_readRows_642 rfl ?_
        refine aw_getf (v := .int (mr_size s599)) dX11_readRows_643 flX11_87_10 at_mod rfl ?_
        refine aw_i2l dX11_readRows_646 ?_
        refine aw_lload_n dX11_readRows_647 rfl ?_
        refine aw_lsub dX11_readRows_648 ?_
        refine aw_lcmp dX11_readRows_649 ?_
        refine aw_if_eq (tgt := 675) dX11_readRows_650 (by decide) (fun c650 => ?_) (fun c650 => ?_)
        · replace hE := fit hE c650
          exact aw_lv _ (List.forall_mem_cons.mpr ⟨rfl, (List.forall_mem_cons.mpr ⟨rfl, (List.forall_mem_cons.mpr ⟨rfl, (List.forall_mem_cons.mpr ⟨rfl, (List.forall_mem_cons.mpr ⟨rfl, (List.forall_mem_cons.mpr ⟨rfl, fun _ h => absurd h List.not_mem_nil⟩)⟩)⟩)⟩)⟩)⟩) (b_X11_readRows_675 mo mw ms mt mu dd wi hi sp li sr co hb n hms  v1 v6 v7 v8 v12 s599 gt ta _ hE hF)
        · replace hE := fif hE c650
          refine aw_lload dX11_readRows_653 rfl ?_
          refine aw_lconst (v := 0) dX11_readRows_655 (by decide) ?_
          refine aw_lcmp dX11_readRows_656 ?_
          refine aw_if_ne (tgt := 667) dX11_readRows_657 (by decide) (fun c657 => ?_) (fun c657 => ?_)
          · replace hE := fif hE c657
            exact aw_lv _ (List.forall_mem_cons.mpr ⟨rfl, fun _ h => absurd h List.not_mem_nil⟩) (b_X11_readRows_667 mo mw ms mt mu dd wi hi sp li sr co hb n hms  s599 gt ta _ hE hF)
          · replace hE := fit hE c657
            refine aw_lload dX11_readRows_660 rfl ?_
            refine aw_lconst (v := 0) dX11_readRows_662 (by decide) ?_
            refine aw_lcmp dX11_readRows_663 ?_
            refine aw_if_eq (tgt := 675) dX11_readRows_664 (by decide) (fun c664 => ?_) (fun c664 => ?_)
            · replace hE := fit hE c664
              exact aw_lv _ (List.forall_mem_cons.mpr ⟨rfl, (List.forall_mem_cons.mpr ⟨rfl, (List.forall_mem_cons.mpr ⟨rfl, (List.forall_mem_cons.mpr ⟨rfl, (List.forall_mem_cons.mpr ⟨rfl, (List.forall_mem_cons.mpr ⟨rfl, fun _ h => absurd h List.not_mem_nil⟩)⟩)⟩)⟩)⟩)⟩) (b_X11_readRows_675 mo mw ms mt mu dd wi hi sp li sr co hb n hms  v1 v6 v7 v8 v12 s599 gt ta _ hE hF)
            · replace hE := fif hE c664
              exact aw_lv _ (List.forall_mem_cons.mpr ⟨rfl, fun _ h => absurd h List.not_mem_nil⟩) (b_X11_readRows_667 mo mw ms mt mu dd wi hi sp li sr co hb n hms  s599 gt ta _ hE hF)
      · replace hE := fif hE c629
        exact aw_lv _ (List.forall_mem_cons.mpr ⟨rfl, fun _ h => absurd h List.not_mem_nil⟩) (b_X11_readRows_632 mo mw ms mt mu dd wi hi sp li sr co hb n hms  s599 gt ta _ hE hF)
  · replace hE := fit hE c602
    refine aw_iconst (v := 0) dX11_readRows_605 (by decide) ?_
    exact aw_zret dX11_readRows_606 rfl (narB (by decide)) (Nat.zero_le _) (Nat.zero_le _) (Nat.zero_le _) (Nat.zero_le _) ⟨_, _, hE.symm, rfl, rfl, rfl⟩
def F_X11_readRows_571 (sb : A)  (v1 : Int64) (v6 : Int32) (v7 : Int32) (v8 : Int64) (v10 : Int64) (v12 : Int64) (mr : MR) (gt : A) (ta : A) : Out (MR × A × A) Int32 := if 8 < v7 then (F_X11_readRows_591 sb v1 v6 v7 v8 v10 v12 mr gt ta) else (if (lg_cmp v12 0) = 0 then (F_X11_readRows_591 sb v1 v6 v7 v8 v10 (1 <<< ((v7).toInt64 &&& 63)) mr gt ta) else (F_X11_readRows_591 sb v1 v6 v7 v8 v10 v12 mr gt ta))
set_option maxHeartbeats 1000000 in
set_option maxRecDepth 100000 in
theorem b_X11_readRows_571 (mo : MO) (mw : MW) (ms : Nat) (mt : A) (mu : A) (dd : A) (wi : A) (hi : A) (sp : A) (li : A) (sr : A) (co : A) (hb : aH) (n : Nat) (hms : isMS ms)  : Q_X11_readRows_571 mo mw ms mt mu dd wi hi sp li sr co hb n (F_X11_readRows_571 (srcB ms mt mu)) := by
  intro v1 v6 v7 v8 v10 v12 mr gt ta res hE hF
  unfold F_X11_readRows_571 at hE
  refine aw_iload dX11_readRows_571 rfl ?_
  refine aw_bipush (v := 8) dX11_readRows_573 (by decide) ?_
  refine aw_icmp_gt (tgt := 591) dX11_readRows_575 (by decide) (fun c575 => ?_) (fun c575 => ?_)
  · replace hE := fit hE c575
    exact aw_lv _ (List.forall_mem_cons.mpr ⟨rfl, (List.forall_mem_cons.mpr ⟨rfl, (List.forall_mem_cons.mpr ⟨rfl, (List.forall_mem_cons.mpr ⟨rfl, (List.forall_mem_cons.mpr ⟨rfl, (List.forall_mem_cons.mpr ⟨rfl, (List.forall_mem_cons.mpr ⟨rfl, fun _ h => absurd h List.not_mem_nil⟩)⟩)⟩)⟩)⟩)⟩)⟩) (b_X11_readRows_591 mo mw ms mt mu dd wi hi sp li sr co hb n hms  v1 v6 v7 v8 v10 v12 mr gt ta _ hE hF)
  · replace hE := fif hE c575
    refine aw_lload dX11_readRows_578 rfl ?_
    refine aw_lconst (v := 0) dX11_readRows_580 (by decide) ?_
    refine aw_lcmp dX11_readRows_581 ?_
    refine aw_if_ne (tgt := 591) dX11_readRows_582 (by decide) (fun c582 => ?_) (fun c582 => ?_)
    · replace hE := fif hE c582
      exact aw_lv _ (List.forall_mem_cons.mpr ⟨rfl, (List.forall_mem_cons.mpr ⟨rfl, (List.forall_mem_cons.mpr ⟨rfl, (List.forall_mem_cons.mpr ⟨rfl, (List.forall_mem_cons.mpr ⟨rfl, (List.forall_mem_cons.mpr ⟨rfl, (List.forall_mem_cons.mpr ⟨rfl, fun _ h => absurd h List.not_mem_nil⟩)⟩)⟩)⟩)⟩)⟩)⟩) (b_X11_readRows_591 mo mw ms mt mu dd wi hi sp li sr co hb n hms  v1 v6 v7 v8 v10 v12 mr gt ta _ hE hF)
    · replace hE := fit hE c582
      refine aw_lconst (v := 1) dX11_readRows_585 (by decide) ?_
      refine aw_iload dX11_readRows_586 rfl ?_
      refine aw_lshl dX11_readRows_588 ?_
      refine aw_lstore (lv2 := [(12, _), (0, _), (1, _), (6, _), (7, _), (8, _), (10, _)]) dX11_readRows_589 (by decide) rfl ?_
      exact aw_lv _ (List.forall_mem_cons.mpr ⟨rfl, (List.forall_mem_cons.mpr ⟨rfl, (List.forall_mem_cons.mpr ⟨rfl, (List.forall_mem_cons.mpr ⟨rfl, (List.forall_mem_cons.mpr ⟨rfl, (List.forall_mem_cons.mpr ⟨rfl, (List.forall_mem_cons.mpr ⟨rfl, fun _ h => absurd h List.not_mem_nil⟩)⟩)⟩)⟩)⟩)⟩)⟩) (b_X11_readRows_591 mo mw ms mt mu dd wi hi sp li sr co hb n hms  v1 v6 v7 v8 v10 (1 <<< ((v7).toInt64 &&& 63)) mr gt ta _ hE hF)
def F_X11_readRows_563 (sb : A)  (mr : MR) (gt : A) (ta : A) : Out (MR × A × A) Int32 := fon (F_X11_wrong 2 46 mr) (fun z567 s567 => if isB z567 then (fok (z567 : Int32) (s567, gt, ta)) else fno) (fun _ _ => fno)
set_option maxHeartbeats 1000000 in
set_option maxRecDepth 100000 in
theorem b_X11_readRows_563 (mo : MO) (mw : MW) (ms : Nat) (mt : A) (mu : A) (dd : A) (wi : A) (hi : A) (sp : A) (li : A) (sr : A) (co : A) (hb : aH) (n : Nat) (hms : isMS ms)  : Q_X11_readRows_563 mo mw ms mt mu dd wi hi sp li sr co hb n (F_X11_readRows_563 (srcB ms mt mu)) := by
  intro mr gt ta res hE hF
  unfold F_X11_readRows_563 at hE
  refine aw_aload_n dX11_readRows_563 rfl ?_
  refine aw_iconst (v := 2) dX11_readRows_564 (by decide) ?_
  refine aw_bipush (v := 46) dX11_readRows_565 (by decide) ?_
  refine aw_callV dX11_readRows_567 at_mod cvX11_90 rfl (kF_X11_wrong mo mw mr ms mt mu dd wi hi gt sp ta li sr co hb _  2 46 (fon_ne hE hF)) rfl (Nat.le_of_ble_eq_true rfl) (by decide) (by decide) (by decide) (by decide) (fun _ _ _ hf => False.elim hf) (fun r567 h567 n567 hp567 => ?_)
  obtain ⟨z567, s567, e567, rfl, rfl, rfl⟩ := hp567
  replace hE := fon_ok e567 hE
  obtain ⟨g570, hE⟩ := fgd hE hF
  exact aw_zret dX11_readRows_570 rfl (narB g570) (Nat.zero_le _) (Nat.zero_le _) (Nat.zero_le _) (Nat.zero_le _) ⟨_, _, hE.symm, rfl, rfl, rfl⟩
def F_X11_readRows_485 (sb : A) (k485 : Int64 → Int32 → Int32 → Int64 → Int64 → MR → A → A → Out (MR × A × A) Int32) (v1 : Int64) (v6 : Int32) (v7 : Int32) (v8 : Int64) (v10 : Int64) (mr : MR) (gt : A) (ta : A) : Out (MR × A × A) Int32 := if 46 ≤ (mr_pos mr) then (fon (F_X11_want 4 mr) (fun z519 s519 => if z519 = 0 then (fok (0 : Int32) (s519, gt, ta)) else (fon (F_X11_low 46 4 sb) (fun z531 s531 => if v7 ≤ 8 then (if (lg_cmp z531 (1 <<< ((v7).toInt64 &&& 63))) ≤ 0 then (F_X11_readRows_571 sb v1 v6 v7 v8 v10 z531 s519 gt ta) else (F_X11_readRows_563 sb s519 gt ta)) else (if (lg_cmp z531 0) = 0 then (F_X11_readRows_571 sb v1 v6 v7 v8 v10 z531 s519 gt ta) else (F_X11_readRows_563 sb s519 gt ta))) (fun _ _ => fno))) (fun _ _ => fno)) else (fon (F_X11_want 4 mr) (fun z496 s496 => if z496 = 0 then (fok (0 : Int32) (s496, gt, ta)) else (k485 v1 v6 v7 v8 v10 ((mr_size s496), ((mr_pos s496) + 4), (mr_kind s496), (mr_whr s496), (mr_gw s496), (mr_gh s496), (mr_one s496), (mr_two s496), (mr_three s496)) gt ta)) (fun _ _ => fno))
set_option maxHeartbeats 1000000 in
set_option maxRecDepth 100000 in
theorem b_X11_readRows_485 (mo : MO) (mw : MW) (ms : Nat) (mt : A) (mu : A) (dd : A) (wi : A) (hi : A) (sp : A) (li : A) (sr : A) (co : A) (hb : aH) (n : Nat) (hms : isMS ms) (k485 : Int64 → Int32 → Int32 → Int64 → Int64 → MR → A → A → Out (MR × A × A) Int32) (hk485 : Q_X11_readRows_485 mo mw ms mt mu dd wi hi sp li sr co hb n k485) : Q_X11_readRows_485 mo mw ms mt mu dd wi hi sp li sr co hb n (F_X11_readRows_485 (srcB ms mt mu) k485) := by
  intro v1 v6 v7 v8 v10 mr gt ta res hE hF
  unfold F_X11_readRows_485 at hE
  refine aw_aload_n dX11_readRows_485 rfl ?_
  refine aw_getf (v := .int (mr_pos mr)) dX11_readRows_486 flX11_84_10 at_mod rfl ?_
  refine aw_bipush (v := 46) dX11_readRows_489 (by decide) ?_
  refine aw_icmp_ge (tgt := 517) dX11_readRows_491 (by decide) (fun c491 => ?_) (fun c491 => ?_)
  · replace hE := fit hE c491
    refine aw_aload_n dX11_readRows_517 rfl ?_
    refine aw_iconst (v := 4) dX11_readRows_518 (by decide) ?_
    refine aw_callV dX11_readRows_519 at_mod cvX11_103 rfl (kF_X11_want mo mw mr ms mt mu dd wi hi gt sp ta li sr co hb _  4 (fon_ne hE hF)) rfl (Nat.le_of_ble_eq_true rfl) (by decide) (by decide) (by decide) (by decide) (fun _ _ _ hf => False.elim hf) (fun r519 h519 n519 hp519 => ?_)
    obtain ⟨z519, s519, e519, rfl, rfl, rfl⟩ := hp519
    replace hE := fon_ok e519 hE
    refine aw_if_ne (tgt := 527) dX11_readRows_522 (by decide) (fun c522 => ?_) (fun c522 => ?_)
    · replace hE := fif hE c522
      refine aw_aload_n dX11_readRows_527 rfl ?_
      refine aw_bipush (v := 46) dX11_readRows_528 (by decide) ?_
      refine aw_iconst (v := 4) dX11_readRows_530 (by decide) ?_
      refine aw_callV dX11_readRows_531 at_mod cvX11_183 rfl (kF_X11_low mo mw s519 ms mt mu dd wi hi gt sp ta li sr co hb _ hms 46 4 (fon_ne hE hF)) rfl (Nat.le_of_ble_eq_true rfl) (by decide) (by decide) (by decide) (by decide) (fun _ _ _ hf => False.elim hf) (fun r531 h531 n531 hp531 => ?_)
      obtain ⟨z531, s531, e531, rfl, rfl, rfl⟩ := hp531
      replace hE := fon_ok e531 hE
      refine aw_lstore (lv2 := [(12, _), (0, _), (1, _), (6, _), (7, _), (8, _), (10, _)]) dX11_readRows_534 (by decide) rfl ?_
      refine aw_iload dX11_readRows_536 rfl ?_
      refine aw_bipush (v := 8) dX11_readRows_538 (by decide) ?_
      refine aw_icmp_le (tgt := 553) dX11_readRows_540 (by decide) (fun c540 => ?_) (fun c540 => ?_)
      · replace hE := fit hE c540
        refine aw_lload dX11_readRows_553 rfl ?_
        refine aw_lconst (v := 1) dX11_readRows_555 (by decide) ?_
        refine aw_iload dX11_readRows_556 rfl ?_
        refine aw_lshl dX11_readRows_558 ?_
        refine aw_lcmp dX11_readRows_559 ?_
        refine aw_if_le (tgt := 571) dX11_readRows_560 (by decide) (fun c560 => ?_) (fun c560 => ?_)
        · replace hE := fit hE c560
          exact aw_lv _ (List.forall_mem_cons.mpr ⟨rfl, (List.forall_mem_cons.mpr ⟨rfl, (List.forall_mem_cons.mpr ⟨rfl, (List.forall_mem_cons.mpr ⟨rfl, (List.forall_mem_cons.mpr ⟨rfl, (List.forall_mem_cons.mpr ⟨rfl, (List.forall_mem_cons.mpr ⟨rfl, fun _ h => absurd h List.not_mem_nil⟩)⟩)⟩)⟩)⟩)⟩)⟩) (b_X11_readRows_571 mo mw ms mt mu dd wi hi sp li sr co hb n hms  v1 v6 v7 v8 v10 z531 s519 gt ta _ hE hF)
        · replace hE := fif hE c560
          exact aw_lv _ (List.forall_mem_cons.mpr ⟨rfl, fun _ h => absurd h List.not_mem_nil⟩) (b_X11_readRows_563 mo mw ms mt mu dd wi hi sp li sr co hb n hms  s519 gt ta _ hE hF)
      · replace hE := fif hE c540
        refine aw_lload dX11_readRows_543 rfl ?_
        refine aw_lconst (v := 0) dX11_readRows_545 (by decide) ?_
        refine aw_lcmp dX11_readRows_546 ?_
        refine aw_if_eq (tgt := 571) dX11_readRows_547 (by decide) (fun c547 => ?_) (fun c547 => ?_)
        · replace hE := fit hE c547
          exact aw_lv _ (List.forall_mem_cons.mpr ⟨rfl, (List.forall_mem_cons.mpr ⟨rfl, (List.forall_mem_cons.mpr ⟨rfl, (List.forall_mem_cons.mpr ⟨rfl, (List.forall_mem_cons.mpr ⟨rfl, (List.forall_mem_cons.mpr ⟨rfl, (List.forall_mem_cons.mpr ⟨rfl, fun _ h => absurd h List.not_mem_nil⟩)⟩)⟩)⟩)⟩)⟩)⟩) (b_X11_readRows_571 mo mw ms mt mu dd wi hi sp li sr co hb n hms  v1 v6 v7 v8 v10 z531 s519 gt ta _ hE hF)
        · replace hE := fif hE c547
          refine aw_goto (tgt := 563) dX11_readRows_550 (by decide) ?_
          exact aw_lv _ (List.forall_mem_cons.mpr ⟨rfl, fun _ h => absurd h List.not_mem_nil⟩) (b_X11_readRows_563 mo mw ms mt mu dd wi hi sp li sr co hb n hms  s519 gt ta _ hE hF)
    · replace hE := fit hE c522
      refine aw_iconst (v := 0) dX11_readRows_525 (by decide) ?_
      exact aw_zret dX11_readRows_526 rfl (narB (by decide)) (Nat.zero_le _) (Nat.zero_le _) (Nat.zero_le _) (Nat.zero_le _) ⟨_, _, hE.symm, rfl, rfl, rfl⟩
  · replace hE := fif hE c491
    refine aw_aload_n dX11_readRows_494 rfl ?_
    refine aw_iconst (v := 4) dX11_readRows_495 (by decide) ?_
    refine aw_callV dX11_readRows_496 at_mod cvX11_103 rfl (kF_X11_want mo mw mr ms mt mu dd wi hi gt sp ta li sr co hb _  4 (fon_ne hE hF)) rfl (Nat.le_of_ble_eq_true rfl) (by decide) (by decide) (by decide) (by decide) (fun _ _ _ hf => False.elim hf) (fun r496 h496 n496 hp496 => ?_)
    obtain ⟨z496, s496, e496, rfl, rfl, rfl⟩ := hp496
    replace hE := fon_ok e496 hE
    refine aw_if_ne (tgt := 504) dX11_readRows_499 (by decide) (fun c499 => ?_) (fun c499 => ?_)
    · replace hE := fif hE c499
      refine aw_aload_n dX11_readRows_504 rfl ?_
      refine aw_dup dX11_readRows_505 rfl ?_
      refine aw_getf (v := .int (mr_pos s496)) dX11_readRows_506 flX11_84_10 at_mod rfl ?_
      refine aw_iconst (v := 4) dX11_readRows_509 (by decide) ?_
      refine aw_iadd dX11_readRows_510 ?_
      refine aw_putf dX11_readRows_511 ptX11_84_10 at_mod (Nat.le_of_ble_eq_true rfl) ⟨rfl, rfl⟩ ?_
      refine aw_eqh (h2 := HM mo mw ((mr_size s496), ((mr_pos s496) + 4), (mr_kind s496), (mr_whr s496), (mr_gw s496), (mr_gh s496), (mr_one s496), (mr_two s496), (mr_three s496)) ms mt mu dd wi hi gt sp ta li sr co hb) up_mod ?_
      refine aw_goto (tgt := 485) dX11_readRows_514 (by decide) ?_
      exact aw_lv _ (List.forall_mem_cons.mpr ⟨rfl, (List.forall_mem_cons.mpr ⟨rfl, (List.forall_mem_cons.mpr ⟨rfl, (List.forall_mem_cons.mpr ⟨rfl, (List.forall_mem_cons.mpr ⟨rfl, (List.forall_mem_cons.mpr ⟨rfl, fun _ h => absurd h List.not_mem_nil⟩)⟩)⟩)⟩)⟩)⟩) (hk485 v1 v6 v7 v8 v10 ((mr_size s496), ((mr_pos s496) + 4), (mr_kind s496), (mr_whr s496), (mr_gw s496), (mr_gh s496), (mr_one s496), (mr_two s496), (mr_three s496)) gt ta _ hE hF)
    · replace hE := fit hE c499
      refine aw_iconst (v := 0) dX11_readRows_502 (by decide) ?_
      exact aw_zret dX11_readRows_503 rfl (narB (by decide)) (Nat.zero_le _) (Nat.zero_le _) (Nat.zero_le _) (Nat.zero_le _) ⟨_, _, hE.symm, rfl, rfl, rfl⟩
def F_X11_readRows_454 (sb : A)  (v1 : Int64) (v6 : Int32) (v7 : Int32) (v8 : Int64) (mr : MR) (gt : A) (ta : A) : Out (MR × A × A) Int32 := fon (F_X11_want 4 ((mr_size mr), 34, (mr_kind mr), (mr_whr mr), (mr_gw mr), (mr_gh mr), (mr_one mr), (mr_two mr), (mr_three mr))) (fun z462 s462 => if z462 = 0 then (fok (0 : Int32) (s462, gt, ta)) else (fon (F_X11_low 34 4 sb) (fun z474 s474 => lp (fun _ _ _ _ _ _ _ _ => fno) (F_X11_readRows_485 sb) FU v1 v6 v7 v8 z474 ((mr_size s462), 38, (mr_kind s462), (mr_whr s462), (mr_gw s462), (mr_gh s462), (mr_one s462), (mr_two s462), (mr_three s462)) gt ta) (fun _ _ => fno))) (fun _ _ => fno)
set_option maxHeartbeats 1000000 in
set_option maxRecDepth 100000 in
theorem b_X11_readRows_454 (mo : MO) (mw : MW) (ms : Nat) (mt : A) (mu : A) (dd : A) (wi : A) (hi : A) (sp : A) (li : A) (sr : A) (co : A) (hb : aH) (n : Nat) (hms : isMS ms)  : Q_X11_readRows_454 mo mw ms mt mu dd wi hi sp li sr co hb n (F_X11_readRows_454 (srcB ms mt mu)) := by
  intro v1 v6 v7 v8 mr gt ta res hE hF
  unfold F_X11_readRows_454 at hE
  refine aw_aload_n dX11_readRows_454 rfl ?_
  refine aw_bipush (v := 34) dX11_readRows_455 (by decide) ?_
  refine aw_putf dX11_readRows_457 ptX11_84_10 at_mod (Nat.le_of_ble_eq_true rfl) ⟨rfl, rfl⟩ ?_
  refine aw_eqh (h2 := HM mo mw ((mr_size mr), 34, (mr_kind mr), (mr_whr mr), (mr_gw mr), (mr_gh mr), (mr_one mr), (mr_two mr), (mr_three mr)) ms mt mu dd wi hi gt sp ta li sr co hb) up_mod ?_
  refine aw_aload_n dX11_readRows_460 rfl ?_
  refine aw_iconst (v := 4) dX11_readRows_461 (by decide) ?_
  refine aw_callV dX11_readRows_462 at_mod cvX11_103 rfl (kF_X11_want mo mw ((mr_size mr), 34, (mr_kind mr), (mr_whr mr), (mr_gw mr), (mr_gh mr), (mr_one mr), (mr_two mr), (mr_three mr)) ms mt mu dd wi hi gt sp ta li sr co hb _  4 (fon_ne hE hF)) rfl (Nat.le_of_ble_eq_true rfl) (by decide) (by decide) (by decide) (by decide) (fun _ _ _ hf => False.elim hf) (fun r462 h462 n462 hp462 => ?_)
  obtain ⟨z462, s462, e462, rfl, rfl, rfl⟩ := hp462
  replace hE := fon_ok e462 hE
  refine aw_if_ne (tgt := 470) dX11_readRows_465 (by decide) (fun c465 => ?_) (fun c465 => ?_)
  · replace hE := fif hE c465
    refine aw_aload_n dX11_readRows_470 rfl ?_
    refine aw_bipush (v := 34) dX11_readRows_471 (by decide) ?_
    refine aw_iconst (v := 4) dX11_readRows_473 (by decide) ?_
    refine aw_callV dX11_readRows_474 at_mod cvX11_183 rfl (kF_X11_low mo mw s462 ms mt mu dd wi hi gt sp ta li sr co hb _ hms 34 4 (fon_ne hE hF)) rfl (Nat.le_of_ble_eq_true rfl) (by decide) (by decide) (by decide) (by decide) (fun _ _ _ hf => False.elim hf) (fun r474 h474 n474 hp474 => ?_)
    obtain ⟨z474, s474, e474, rfl, rfl, rfl⟩ := hp474
    replace hE := fon_ok e474 hE
    refine aw_lstore (lv2 := [(10, _), (0, _), (1, _), (6, _), (7, _), (8, _)]) dX11_readRows_477 (by decide) rfl ?_
    refine aw_aload_n dX11_readRows_479 rfl ?_
    refine aw_bipush (v := 38) dX11_readRows_480 (by decide) ?_
    refine aw_putf dX11_readRows_482 ptX11_84_10 at_mod (Nat.le_of_ble_eq_true rfl) ⟨rfl, rfl⟩ ?_
    refine aw_eqh (h2 := HM mo mw ((mr_size s462), 38, (mr_kind s462), (mr_whr s462), (mr_gw s462), (mr_gh s462), (mr_one s462), (mr_two s462), (mr_three s462)) ms mt mu dd wi hi gt sp ta li sr co hb) up_mod ?_
    exact aw_lv _ (List.forall_mem_cons.mpr ⟨rfl, (List.forall_mem_cons.mpr ⟨rfl, (List.forall_mem_cons.mpr ⟨rfl, (List.forall_mem_cons.mpr ⟨rfl, (List.forall_mem_cons.mpr ⟨rfl, (List.forall_mem_cons.mpr ⟨rfl, fun _ h => absurd h List.not_mem_nil⟩)⟩)⟩)⟩)⟩)⟩) (lp_ind (Q_X11_readRows_485 mo mw ms mt mu dd wi hi sp li sr co hb n) (fun _ _ _ _ _ _ _ _ res hq hF => (hF hq.symm).elim) (fun k hk => b_X11_readRows_485 mo mw ms mt mu dd wi hi sp li sr co hb n hms  k hk) FU v1 v6 v7 v8 z474 ((mr_size s462), 38, (mr_kind s462), (mr_whr s462), (mr_gw s462), (mr_gh s462), (mr_one s462), (mr_two s462), (mr_three s462)) gt ta _ hE hF)
  · replace hE := fit hE c465
    refine aw_iconst (v := 0) dX11_readRows_468 (by decide) ?_
    exact aw_zret dX11_readRows_469 rfl (narB (by decide)) (Nat.zero_le _) (Nat.zero_le _) (Nat.zero_le _) (Nat.zero_le _) ⟨_, _, hE.symm, rfl, rfl, rfl⟩
def F_X11_readRows_446 (sb : A)  (mr : MR) (gt : A) (ta : A) : Out (MR × A × A) Int32 := fon (F_X11_wrong 2 30 mr) (fun z450 s450 => if isB z450 then (fok (z450 : Int32) (s450, gt, ta)) else fno) (fun _ _ => fno)
set_option maxHeartbeats 1000000 in
set_option maxRecDepth 100000 in
theorem b_X11_readRows_446 (mo : MO) (mw : MW) (ms : Nat) (mt : A) (mu : A) (dd : A) (wi : A) (hi : A) (sp : A) (li : A) (sr : A) (co : A) (hb : aH) (n : Nat) (hms : isMS ms)  : Q_X11_readRows_446 mo mw ms mt mu dd wi hi sp li sr co hb n (F_X11_readRows_446 (srcB ms mt mu)) := by
  intro mr gt ta res hE hF
  unfold F_X11_readRows_446 at hE
  refine aw_aload_n dX11_readRows_446 rfl ?_
  refine aw_iconst (v := 2) dX11_readRows_447 (by decide) ?_
  refine aw_bipush (v := 30) dX11_readRows_448 (by decide) ?_
  refine aw_callV dX11_readRows_450 at_mod cvX11_90 rfl (kF_X11_wrong mo mw mr ms mt mu dd wi hi gt sp ta li sr co hb _  2 30 (fon_ne hE hF)) rfl (Nat.le_of_ble_eq_true rfl) (by decide) (by decide) (by decide) (by decide) (fun _ _ _ hf => False.elim hf) (fun r450 h450 n450 hp450 => ?_)
  obtain ⟨z450, s450, e450, rfl, rfl, rfl⟩ := hp450
  replace hE := fon_ok e450 hE
  obtain ⟨g453, hE⟩ := fgd hE hF
  exact aw_zret dX11_readRows_453 rfl (narB g453) (Nat.zero_le _) (Nat.zero_le _) (Nat.zero_le _) (Nat.zero_le _) ⟨_, _, hE.symm, rfl, rfl, rfl⟩
def F_X11_readRows_431 (sb : A)  (v1 : Int64) (v6 : Int32) (v7 : Int32) (v8 : Int64) (mr : MR) (gt : A) (ta : A) : Out (MR × A × A) Int32 := if (lg_cmp v8 2) = 0 then (if v7 = 4 then (F_X11_readRows_454 sb v1 v6 v7 v8 mr gt ta) else (F_X11_readRows_446 sb mr gt ta)) else (F_X11_readRows_446 sb mr gt ta)
set_option maxHeartbeats 1000000 in
set_option maxRecDepth 100000 in
theorem b_X11_readRows_431 (mo : MO) (mw : MW) (ms : Nat) (mt : A) (mu : A) (dd : A) (wi : A) (hi : A) (sp : A) (li : A) (sr : A) (co : A) (hb : aH) (n : Nat) (hms : isMS ms)  : Q_X11_readRows_431 mo mw ms mt mu dd wi hi sp li sr co hb n (F_X11_readRows_431 (srcB ms mt mu)) := by
  intro v1 v6 v7 v8 mr gt ta res hE hF
  unfold F_X11_readRows_431 at hE
  refine aw_lload dX11_readRows_431 rfl ?_
  refine aw_ldc2 dX11_readRows_433 kcX11_188 ?_
  refine aw_lcmp dX11_readRows_436 ?_
  refine aw_if_ne (tgt := 446) dX11_readRows_437 (by decide) (fun c437 => ?_) (fun c437 => ?_)
  · replace hE := fif hE c437
    exact aw_lv _ (List.forall_mem_cons.mpr ⟨rfl, fun _ h => absurd h List.not_mem_nil⟩) (b_X11_readRows_446 mo mw ms mt mu dd wi hi sp li sr co hb n hms  mr gt ta _ hE hF)
  · replace hE := fit hE c437
    refine aw_iload dX11_readRows_440 rfl ?_
    refine aw_iconst (v := 4) dX11_readRows_442 (by decide) ?_
    refine aw_icmp_eq (tgt := 454) dX11_readRows_443 (by decide) (fun c443 => ?_) (fun c443 => ?_)
    · replace hE := fit hE c443
      exact aw_lv _ (List.forall_mem_cons.mpr ⟨rfl, (List.forall_mem_cons.mpr ⟨rfl, (List.forall_mem_cons.mpr ⟨rfl, (List.forall_mem_cons.mpr ⟨rfl, (List.forall_mem_cons.mpr ⟨rfl, fun _ h => absurd h List.not_mem_nil⟩)⟩)⟩)⟩)⟩) (b_X11_readRows_454 mo mw ms mt mu dd wi hi sp li sr co hb n hms  v1 v6 v7 v8 mr gt ta _ hE hF)
    · replace hE := fif hE c443
      exact aw_lv _ (List.forall_mem_cons.mpr ⟨rfl, fun _ h => absurd h List.not_mem_nil⟩) (b_X11_readRows_446 mo mw ms mt mu dd wi hi sp li sr co hb n hms  mr gt ta _ hE hF)
def F_X11_readRows_380 (sb : A)  (v1 : Int64) (v6 : Int32) (v7 : Int32) (mr : MR) (gt : A) (ta : A) : Out (MR × A × A) Int32 := fon (F_X11_want 4 ((mr_size mr), 30, (mr_kind mr), (mr_whr mr), (mr_gw mr), (mr_gh mr), (mr_one mr), (mr_two mr), (mr_three mr))) (fun z388 s388 => if z388 = 0 then (fok (0 : Int32) (s388, gt, ta)) else (fon (F_X11_low 30 4 sb) (fun z400 s400 => if (lg_cmp z400 0) = 0 then (F_X11_readRows_454 sb v1 v6 v7 z400 s388 gt ta) else (if v6 = 0 then (if (lg_cmp z400 1) = 0 then (if v7 = 8 then (F_X11_readRows_454 sb v1 v6 v7 z400 s388 gt ta) else (F_X11_readRows_431 sb v1 v6 v7 z400 s388 gt ta)) else (F_X11_readRows_431 sb v1 v6 v7 z400 s388 gt ta)) else (F_X11_readRows_446 sb s388 gt ta))) (fun _ _ => fno))) (fun _ _ => fno)
set_option maxHeartbeats 1000000 in
set_option maxRecDepth 100000 in
theorem b_X11_readRows_380 (mo : MO) (mw : MW) (ms : Nat) (mt : A) (mu : A) (dd : A) (wi : A) (hi : A) (sp : A) (li : A) (sr : A) (co : A) (hb : aH) (n : Nat) (hms : isMS ms)  : Q_X11_readRows_380 mo mw ms mt mu dd wi hi sp li sr co hb n (F_X11_readRows_380 (srcB ms mt mu)) := by
  intro v1 v6 v7 mr gt ta res hE hF
  unfold F_X11_readRows_380 at hE
  refine aw_aload_n dX11_readRows_380 rfl ?_
  refine aw_bipush (v := 30) dX11_readRows_381 (by decide) ?_
  refine aw_putf dX11_readRows_383 ptX11_84_10 at_mod (Nat.le_of_ble_eq_true rfl) ⟨rfl, rfl⟩ ?_
  refine aw_eqh (h2 := HM mo mw ((mr_size mr), 30, (mr_kind mr), (mr_whr mr), (mr_gw mr), (mr_gh mr), (mr_one mr), (mr_two mr), (mr_three mr)) ms mt mu dd wi hi gt sp ta li sr co hb) up_mod ?_
  refine aw_aload_n dX11_readRows_386 rfl ?_
  refine aw_iconst (v := 4) dX11_readRows_387 (by decide) ?_
  refine aw_callV dX11_readRows_388 at_mod cvX11_103 rfl (kF_X11_want mo mw ((mr_size mr), 30, (mr_kind mr), (mr_whr mr), (mr_gw mr), (mr_gh mr), (mr_one mr), (mr_two mr), (mr_three mr)) ms mt mu dd wi hi gt sp ta li sr co hb _  4 (fon_ne hE hF)) rfl (Nat.le_of_ble_eq_true rfl) (by decide) (by decide) (by decide) (by decide) (fun _ _ _ hf => False.elim hf) (fun r388 h388 n388 hp388 => ?_)
  obtain ⟨z388, s388, e388, rfl, rfl, rfl⟩ := hp388
  replace hE := fon_ok e388 hE
  refine aw_if_ne (tgt := 396) dX11_readRows_391 (by decide) (fun c391 => ?_) (fun c391 => ?_)
  · replace hE := fif hE c391
    refine aw_aload_n dX11_readRows_396 rfl ?_
    refine aw_bipush (v := 30) dX11_readRows_397 (by decide) ?_
    refine aw_iconst (v := 4) dX11_readRows_399 (by decide) ?_
    refine aw_callV dX11_readRows_400 at_mod cvX11_183 rfl (kF_X11_low mo mw s388 ms mt mu dd wi hi gt sp ta li sr co hb _ hms 30 4 (fon_ne hE hF)) rfl (Nat.le_of_ble_eq_true rfl) (by decide) (by decide) (by decide) (by decide) (fun _ _ _ hf => False.elim hf) (fun r400 h400 n400 hp400 => ?_)
    obtain ⟨z400, s400, e400, rfl, rfl, rfl⟩ := hp400
    replace hE := fon_ok e400 hE
    refine aw_lstore (lv2 := [(8, _), (0, _), (1, _), (6, _), (7, _)]) dX11_readRows_403 (by decide) rfl ?_
    refine aw_lload dX11_readRows_405 rfl ?_
    refine aw_lconst (v := 0) dX11_readRows_407 (by decide) ?_
    refine aw_lcmp dX11_readRows_408 ?_
    refine aw_if_eq (tgt := 454) dX11_readRows_409 (by decide) (fun c409 => ?_) (fun c409 => ?_)
    · replace hE := fit hE c409
      exact aw_lv _ (List.forall_mem_cons.mpr ⟨rfl, (List.forall_mem_cons.mpr ⟨rfl, (List.forall_mem_cons.mpr ⟨rfl, (List.forall_mem_cons.mpr ⟨rfl, (List.forall_mem_cons.mpr ⟨rfl, fun _ h => absurd h List.not_mem_nil⟩)⟩)⟩)⟩)⟩) (b_X11_readRows_454 mo mw ms mt mu dd wi hi sp li sr co hb n hms  v1 v6 v7 z400 s388 gt ta _ hE hF)
    · replace hE := fif hE c409
      refine aw_iload dX11_readRows_412 rfl ?_
      refine aw_if_ne (tgt := 446) dX11_readRows_414 (by decide) (fun c414 => ?_) (fun c414 => ?_)
      · replace hE := fif hE c414
        exact aw_lv _ (List.forall_mem_cons.mpr ⟨rfl, fun _ h => absurd h List.not_mem_nil⟩) (b_X11_readRows_446 mo mw ms mt mu dd wi hi sp li sr co hb n hms  s388 gt ta _ hE hF)
      · replace hE := fit hE c414
        refine aw_lload dX11_readRows_417 rfl ?_
        refine aw_lconst (v := 1) dX11_readRows_419 (by decide) ?_
        refine aw_lcmp dX11_readRows_420 ?_
        refine aw_if_ne (tgt := 431) dX11_readRows_421 (by decide) (fun c421 => ?_) (fun c421 => ?_)
        · replace hE := fif hE c421
          exact aw_lv _ (List.forall_mem_cons.mpr ⟨rfl, (List.forall_mem_cons.mpr ⟨rfl, (List.forall_mem_cons.mpr ⟨rfl, (List.forall_mem_cons.mpr ⟨rfl, (List.forall_mem_cons.mpr ⟨rfl, fun _ h => absurd h List.not_mem_nil⟩)⟩)⟩)⟩)⟩) (b_X11_readRows_431 mo mw ms mt mu dd wi hi sp li sr co hb n hms  v1 v6 v7 z400 s388 gt ta _ hE hF)
        · replace hE := fit hE c421
          refine aw_iload dX11_readRows_424 rfl ?_
          refine aw_bipush (v := 8) dX11_readRows_426 (by decide) ?_
          refine aw_icmp_eq (tgt := 454) dX11_readRows_428 (by decide) (fun c428 => ?_) (fun c428 => ?_)
          · replace hE := fit hE c428
            exact aw_lv _ (List.forall_mem_cons.mpr ⟨rfl, (List.forall_mem_cons.mpr ⟨rfl, (List.forall_mem_cons.mpr ⟨rfl, (List.forall_mem_cons.mpr ⟨rfl, (List.forall_mem_cons.mpr ⟨rfl, fun _ h => absurd h List.not_mem_nil⟩)⟩)⟩)⟩)⟩) (b_X11_readRows_454 mo mw ms mt mu dd wi hi sp li sr co hb n hms  v1 v6 v7 z400 s388 gt ta _ hE hF)
          · replace hE := fif hE c428
            exact aw_lv _ (List.forall_mem_cons.mpr ⟨rfl, (List.forall_mem_cons.mpr ⟨rfl, (List.forall_mem_cons.mpr ⟨rfl, (List.forall_mem_cons.mpr ⟨rfl, (List.forall_mem_cons.mpr ⟨rfl, fun _ h => absurd h List.not_mem_nil⟩)⟩)⟩)⟩)⟩) (b_X11_readRows_431 mo mw ms mt mu dd wi hi sp li sr co hb n hms  v1 v6 v7 z400 s388 gt ta _ hE hF)
  · replace hE := fit hE c391
    refine aw_iconst (v := 0) dX11_readRows_394 (by decide) ?_
    exact aw_zret dX11_readRows_395 rfl (narB (by decide)) (Nat.zero_le _) (Nat.zero_le _) (Nat.zero_le _) (Nat.zero_le _) ⟨_, _, hE.symm, rfl, rfl, rfl⟩
def F_X11_readRows_260 (sb : A)  (v1 : Int64) (v6 : Int32) (t0 : Int64) (t1 : Int64) (mr : MR) (gt : A) (ta : A) : Out (MR × A × A) Int32 := fon (F_X11_fits t1 t0 22 mr) (fun z262 s262 => if z262 = 0 then (fok (0 : Int32) (s262, gt, ta)) else (fon (F_X11_want 2 ((mr_size s262), 26, (mr_kind s262), (mr_whr s262), (mr_gw s262), (mr_gh s262), (mr_one s262), (mr_two s262), (mr_three s262))) (fun z278 s278 => if z278 = 0 then (fok (0 : Int32) (s278, gt, ta)) else (fon (F_X11_low 26 2 sb) (fun z290 s290 => if (lg_cmp z290 1) = 0 then (fon (F_X11_want 2 ((mr_size s278), 28, (mr_kind s278), (mr_whr s278), (mr_gw s278), (mr_gh s278), (mr_one s278), (mr_two s278), (mr_three s278))) (fun z314 s314 => if z314 = 0 then (fok (0 : Int32) (s314, gt, ta)) else (fon (F_X11_low 28 2 sb) (fun z326 s326 => if (z326).toInt32 = 1 then (F_X11_readRows_380 sb v1 v6 ((z326).toInt32) s314 gt ta) else (if (z326).toInt32 = 4 then (F_X11_readRows_380 sb v1 v6 ((z326).toInt32) s314 gt ta) else (if (z326).toInt32 = 8 then (F_X11_readRows_380 sb v1 v6 ((z326).toInt32) s314 gt ta) else (if (z326).toInt32 = 16 then (F_X11_readRows_380 sb v1 v6 ((z326).toInt32) s314 gt ta) else (if (z326).toInt32 = 24 then (F_X11_readRows_380 sb v1 v6 ((z326).toInt32) s314 gt ta) else (if (z326).toInt32 = 32 then (F_X11_readRows_380 sb v1 v6 ((z326).toInt32) s314 gt ta) else (fon (F_X11_wrong 2 28 s314) (fun z376 s376 => if isB z376 then (fok (z376 : Int32) (s376, gt, ta)) else fno) (fun _ _ => fno)))))))) (fun _ _ => fno))) (fun _ _ => fno)) else (fon (F_X11_wrong 2 26 s278) (fun z302 s302 => if isB z302 then (fok (z302 : Int32) (s302, gt, ta)) else fno) (fun _ _ => fno))) (fun _ _ => fno))) (fun _ _ => fno))) (fun _ _ => fno)
set_option maxHeartbeats 1000000 in
set_option maxRecDepth 100000 in
theorem b_X11_readRows_260 (mo : MO) (mw : MW) (ms : Nat) (mt : A) (mu : A) (dd : A) (wi : A) (hi : A) (sp : A) (li : A) (sr : A) (co : A) (hb : aH) (n : Nat) (hms : isMS ms)  : Q_X11_readRows_260 mo mw ms mt mu dd wi hi sp li sr co hb n (F_X11_readRows_260 (srcB ms mt mu)) := by
  intro v1 v6 t0 t1 mr gt ta res hE hF
  unfold F_X11_readRows_260 at hE
  refine aw_bipush (v := 22) dX11_readRows_260 (by decide) ?_
  refine aw_callV dX11_readRows_262 at_mod cvX11_126 rfl (kF_X11_fits mo mw mr ms mt mu dd wi hi gt sp ta li sr co hb _  t1 t0 22 (fon_ne hE hF)) rfl (Nat.le_of_ble_eq_true rfl) (by decide) (by decide) (by decide) (by decide) (fun _ _ _ hf => False.elim hf) (fun r262 h262 n262 hp262 => ?_)
  obtain ⟨z262, s262, e262, rfl, rfl, rfl⟩ := hp262
  replace hE := fon_ok e262 hE
  refine aw_if_ne (tgt := 270) dX11_readRows_265 (by decide) (fun c265 => ?_) (fun c265 => ?_)
  · replace hE := fif hE c265
    refine aw_aload_n dX11_readRows_270 rfl ?_
    refine aw_bipush (v := 26) dX11_readRows_271 (by decide) ?_
    refine aw_putf dX11_readRows_273 ptX11_84_10 at_mod (Nat.le_of_ble_eq_true rfl) ⟨rfl, rfl⟩ ?_
    refine aw_eqh (h2 := HM mo mw ((mr_size s262), 26, (mr_kind s262), (mr_whr s262), (mr_gw s262), (mr_gh s262), (mr_one s262), (mr_two s262), (mr_three s262)) ms mt mu dd wi hi gt sp ta li sr co hb) up_mod ?_
    refine aw_aload_n dX11_readRows_276 rfl ?_
    refine aw_iconst (v := 2) dX11_readRows_277 (by decide) ?_
    refine aw_callV dX11_readRows_278 at_mod cvX11_103 rfl (kF_X11_want mo mw ((mr_size s262), 26, (mr_kind s262), (mr_whr s262), (mr_gw s262), (mr_gh s262), (mr_one s262), (mr_two s262), (mr_three s262)) ms mt mu dd wi hi gt sp ta li sr co hb _  2 (fon_ne hE hF)) rfl (Nat.le_of_ble_eq_true rfl) (by decide) (by decide) (by decide) (by decide) (fun _ _ _ hf => False.elim hf) (fun r278 h278 n278 hp278 => ?_)
    obtain ⟨z278, s278, e278, rfl, rfl, rfl⟩ := hp278
    replace hE := fon_ok e278 hE
    refine aw_if_ne (tgt := 286) dX11_readRows_281 (by decide) (fun c281 => ?_) (fun c281 => ?_)
    · replace hE := fif hE c281
      refine aw_aload_n dX11_readRows_286 rfl ?_
      refine aw_bipush (v := 26) dX11_readRows_287 (by decide) ?_
      refine aw_iconst (v := 2) dX11_readRows_289 (by decide) ?_
      refine aw_callV dX11_readRows_290 at_mod cvX11_183 rfl (kF_X11_low mo mw s278 ms mt mu dd wi hi gt sp ta li sr co hb _ hms 26 2 (fon_ne hE hF)) rfl (Nat.le_of_ble_eq_true rfl) (by decide) (by decide) (by decide) (by decide) (fun _ _ _ hf => False.elim hf) (fun r290 h290 n290 hp290 => ?_)
      obtain ⟨z290, s290, e290, rfl, rfl, rfl⟩ := hp290
      replace hE := fon_ok e290 hE
      refine aw_lconst (v := 1) dX11_readRows_293 (by decide) ?_
      refine aw_lcmp dX11_readRows_294 ?_
      refine aw_if_eq (tgt := 306) dX11_readRows_295 (by decide) (fun c295 => ?_) (fun c295 => ?_)
      · replace hE := fit hE c295
        refine aw_aload_n dX11_readRows_306 rfl ?_
        refine aw_bipush (v := 28) dX11_readRows_307 (by decide) ?_
        refine aw_putf dX11_readRows_309 ptX11_84_10 at_mod (Nat.le_of_ble_eq_true rfl) ⟨rfl, rfl⟩ ?_
        refine aw_eqh (h2 := HM mo mw ((mr_size s278), 28, (mr_kind s278), (mr_whr s278), (mr_gw s278), (mr_gh s278), (mr_one s278), (mr_two s278), (mr_three s278)) ms mt mu dd wi hi gt sp ta li sr co hb) up_mod ?_
        refine aw_aload_n dX11_readRows_312 rfl ?_
        refine aw_iconst (v := 2) dX11_readRows_313 (by decide) ?_
        refine aw_callV dX11_readRows_314 at_mod cvX11_103 rfl (kF_X11_want mo mw ((mr_size s278), 28, (mr_kind s278), (mr_whr s278), (mr_gw s278), (mr_gh s278), (mr_one s278), (mr_two s278), (mr_three s278)) ms mt mu dd wi hi gt sp ta li sr co hb _  2 (fon_ne hE hF)) rfl (Nat.le_of_ble_eq_true rfl) (by decide) (by decide) (by decide) (by decide) (fun _ _ _ hf => False.elim hf) (fun r314 h314 n314 hp314 => ?_)
        obtain ⟨z314, s314, e314, rfl, rfl, rfl⟩ := hp314
        replace hE := fon_ok e314 hE
        refine aw_if_ne (tgt := 322) dX11_readRows_317 (by decide) (fun c317 => ?_) (fun c317 => ?_)
        · replace hE := fif hE c317
          refine aw_aload_n dX11_readRows_322 rfl ?_
          refine aw_bipush (v := 28) dX11_readRows_323 (by decide) ?_
          refine aw_iconst (v := 2) dX11_readRows_325 (by decide) ?_
          refine aw_callV dX11_readRows_326 at_mod cvX11_183 rfl (kF_X11_low mo mw s314 ms mt mu dd wi hi gt sp ta li sr co hb _ hms 28 2 (fon_ne hE hF)) rfl (Nat.le_of_ble_eq_true rfl) (by decide) (by decide) (by decide) (by decide) (fun _ _ _ hf => False.elim hf) (fun r326 h326 n326 hp326 => ?_)
          obtain ⟨z326, s326, e326, rfl, rfl, rfl⟩ := hp326
          replace hE := fon_ok e326 hE
          refine aw_l2i dX11_readRows_329 ?_
          refine aw_istore (lv2 := [(7, _), (0, _), (1, _), (6, _)]) dX11_readRows_330 (by decide) rfl ?_
          refine aw_iload dX11_readRows_332 rfl ?_
          refine aw_iconst (v := 1) dX11_readRows_334 (by decide) ?_
          refine aw_icmp_eq (tgt := 380) dX11_readRows_335 (by decide) (fun c335 => ?_) (fun c335 => ?_)
          · replace hE := fit hE c335
            exact aw_lv _ (List.forall_mem_cons.mpr ⟨rfl, (List.forall_mem_cons.mpr ⟨rfl, (List.forall_mem_cons.mpr ⟨rfl, (List.forall_mem_cons.mpr ⟨rfl, fun _ h => absurd h List.not_mem_nil⟩)⟩)⟩)⟩) (b_X11_readRows_380 mo mw ms mt mu dd wi hi sp li sr co hb n hms  v1 v6 ((z326).toInt32) s314 gt ta _ hE hF)
          · replace hE := fif hE c335
            refine aw_iload dX11_readRows_338 rfl ?_
            refine aw_iconst (v := 4) dX11_readRows_340 (by decide) ?_
            refine aw_icmp_eq (tgt := 380) dX11_readRows_341 (by decide) (fun c341 => ?_) (fun c341 => ?_)
            · replace hE := fit hE c341
              exact aw_lv _ (List.forall_mem_cons.mpr ⟨rfl, (List.forall_mem_cons.mpr ⟨rfl, (List.forall_mem_cons.mpr ⟨rfl, (List.forall_mem_cons.mpr ⟨rfl, fun _ h => absurd h List.not_mem_nil⟩)⟩)⟩)⟩) (b_X11_readRows_380 mo mw ms mt mu dd wi hi sp li sr co hb n hms  v1 v6 ((z326).toInt32) s314 gt ta _ hE hF)
            · replace hE := fif hE c341
              refine aw_iload dX11_readRows_344 rfl ?_
              refine aw_bipush (v := 8) dX11_readRows_346 (by decide) ?_
              refine aw_icmp_eq (tgt := 380) dX11_readRows_348 (by decide) (fun c348 => ?_) (fun c348 => ?_)
              · replace hE := fit hE c348
                exact aw_lv _ (List.forall_mem_cons.mpr ⟨rfl, (List.forall_mem_cons.mpr ⟨rfl, (List.forall_mem_cons.mpr ⟨rfl, (List.forall_mem_cons.mpr ⟨rfl, fun _ h => absurd h List.not_mem_nil⟩)⟩)⟩)⟩) (b_X11_readRows_380 mo mw ms mt mu dd wi hi sp li sr co hb n hms  v1 v6 ((z326).toInt32) s314 gt ta _ hE hF)
              · replace hE := fif hE c348
                refine aw_iload dX11_readRows_351 rfl ?_
                refine aw_bipush (v := 16) dX11_readRows_353 (by decide) ?_
                refine aw_icmp_eq (tgt := 380) dX11_readRows_355 (by decide) (fun c355 => ?_) (fun c355 => ?_)
                · replace hE := fit hE c355
                  exact aw_lv _ (List.forall_mem_cons.mpr ⟨rfl, (List.forall_mem_cons.mpr ⟨rfl, (List.forall_mem_cons.mpr ⟨rfl, (List.forall_mem_cons.mpr ⟨rfl, fun _ h => absurd h List.not_mem_nil⟩)⟩)⟩)⟩) (b_X11_readRows_380 mo mw ms mt mu dd wi hi sp li sr co hb n hms  v1 v6 ((z326).toInt32) s314 gt ta _ hE hF)
                · replace hE := fif hE c355
                  refine aw_iload dX11_readRows_358 rfl ?_
                  refine aw_bipush (v := 24) dX11_readRows_360 (by decide) ?_
                  refine aw_icmp_eq (tgt := 380) dX11_readRows_362 (by decide) (fun c362 => ?_) (fun c362 => ?_)
                  · replace hE := fit hE c362
                    exact aw_lv _ (List.forall_mem_cons.mpr ⟨rfl, (List.forall_mem_cons.mpr ⟨rfl, (List.forall_mem_cons.mpr ⟨rfl, (List.forall_mem_cons.mpr ⟨rfl, fun _ h => absurd h List.not_mem_nil⟩)⟩)⟩)⟩) (b_X11_readRows_380 mo mw ms mt mu dd wi hi sp li sr co hb n hms  v1 v6 ((z326).toInt32) s314 gt ta _ hE hF)
                  · replace hE := fif hE c362
                    refine aw_iload dX11_readRows_365 rfl ?_
                    refine aw_bipush (v := 32) dX11_readRows_367 (by decide) ?_
                    refine aw_icmp_eq (tgt := 380) dX11_readRows_369 (by decide) (fun c369 => ?_) (fun c369 => ?_)
                    · replace hE := fit hE c369
                      exact aw_lv _ (List.forall_mem_cons.mpr ⟨rfl, (List.forall_mem_cons.mpr ⟨rfl, (List.forall_mem_cons.mpr ⟨rfl, (List.forall_mem_cons.mpr ⟨rfl, fun _ h => absurd h List.not_mem_nil⟩)⟩)⟩)⟩) (b_X11_readRows_380 mo mw ms mt mu dd wi hi sp li sr co hb n hms  v1 v6 ((z326).toInt32) s314 gt ta _ hE hF)
                    · replace hE := fif hE c369
                      refine aw_aload_n dX11_readRows_372 rfl ?_
                      refine aw_iconst (v := 2) dX11_readRows_373 (by decide) ?_
                      refine aw_bipush (v := 28) dX11_readRows_374 (by decide) ?_
                      refine aw_callV dX11_readRows_376 at_mod cvX11_90 rfl (kF_X11_wrong mo mw s314 ms mt mu dd wi hi gt sp ta li sr co hb _  2 28 (fon_ne hE hF)) rfl (Nat.le_of_ble_eq_true rfl) (by decide) (by decide) (by decide) (by decide) (fun _ _ _ hf => False.elim hf) (fun r376 h376 n376 hp376 => ?_)
                      obtain ⟨z376, s376, e376, rfl, rfl, rfl⟩ := hp376
                      replace hE := fon_ok e376 hE
                      obtain ⟨g379, hE⟩ := fgd hE hF
                      exact aw_zret dX11_readRows_379 rfl (narB g379) (Nat.zero_le _) (Nat.zero_le _) (Nat.zero_le _) (Nat.zero_le _) ⟨_, _, hE.symm, rfl, rfl, rfl⟩
        · replace hE := fit hE c317
          refine aw_iconst (v := 0) dX11_readRows_320 (by decide) ?_
          exact aw_zret dX11_readRows_321 rfl (narB (by decide)) (Nat.zero_le _) (Nat.zero_le _) (Nat.zero_le _) (Nat.zero_le _) ⟨_, _, hE.symm, rfl, rfl, rfl⟩
      · replace hE := fif hE c295
        refine aw_aload_n dX11_readRows_298 rfl ?_
        refine aw_iconst (v := 2) dX11_readRows_299 (by decide) ?_
        refine aw_bipush (v := 26) dX11_readRows_300 (by decide) ?_
        refine aw_callV dX11_readRows_302 at_mod cvX11_90 rfl (kF_X11_wrong mo mw s278 ms mt mu dd wi hi gt sp ta li sr co hb _  2 26 (fon_ne hE hF)) rfl (Nat.le_of_ble_eq_true rfl) (by decide) (by decide) (by decide) (by decide) (fun _ _ _ hf => False.elim hf) (fun r302 h302 n302 hp302 => ?_)
        obtain ⟨z302, s302, e302, rfl, rfl, rfl⟩ := hp302
        replace hE := fon_ok e302 hE
        obtain ⟨g305, hE⟩ := fgd hE hF
        exact aw_zret dX11_readRows_305 rfl (narB g305) (Nat.zero_le _) (Nat.zero_le _) (Nat.zero_le _) (Nat.zero_le _) ⟨_, _, hE.symm, rfl, rfl, rfl⟩
    · replace hE := fit hE c281
      refine aw_iconst (v := 0) dX11_readRows_284 (by decide) ?_
      exact aw_zret dX11_readRows_285 rfl (narB (by decide)) (Nat.zero_le _) (Nat.zero_le _) (Nat.zero_le _) (Nat.zero_le _) ⟨_, _, hE.symm, rfl, rfl, rfl⟩
  · replace hE := fit hE c265
    refine aw_iconst (v := 0) dX11_readRows_268 (by decide) ?_
    exact aw_zret dX11_readRows_269 rfl (narB (by decide)) (Nat.zero_le _) (Nat.zero_le _) (Nat.zero_le _) (Nat.zero_le _) ⟨_, _, hE.symm, rfl, rfl, rfl⟩
def F_X11_readRows_242 (sb : A)  (v1 : Int64) (v3 : Int32) (v4 : Int64) (t0 : Int32) (mr : MR) (gt : A) (ta : A) : Out (MR × A × A) Int32 := if t0 = 0 then (F_X11_readRows_260 sb v1 t0 v4 ((v3).toInt64) mr gt ta) else (F_X11_readRows_260 sb v1 t0 (-v4) ((v3).toInt64) mr gt ta)
set_option maxHeartbeats 1000000 in
set_option maxRecDepth 100000 in
theorem b_X11_readRows_242 (mo : MO) (mw : MW) (ms : Nat) (mt : A) (mu : A) (dd : A) (wi : A) (hi : A) (sp : A) (li : A) (sr : A) (co : A) (hb : aH) (n : Nat) (hms : isMS ms)  : Q_X11_readRows_242 mo mw ms mt mu dd wi hi sp li sr co hb n (F_X11_readRows_242 (srcB ms mt mu)) := by
  intro v1 v3 v4 t0 mr gt ta res hE hF
  unfold F_X11_readRows_242 at hE
  refine aw_istore (lv2 := [(6, _), (0, _), (1, _), (3, _), (4, _)]) dX11_readRows_242 (by decide) rfl ?_
  refine aw_aload_n dX11_readRows_244 rfl ?_
  refine aw_iload_n dX11_readRows_245 rfl ?_
  refine aw_i2l dX11_readRows_246 ?_
  refine aw_iload dX11_readRows_247 rfl ?_
  refine aw_if_eq (tgt := 258) dX11_readRows_249 (by decide) (fun c249 => ?_) (fun c249 => ?_)
  · replace hE := fit hE c249
    refine aw_lload dX11_readRows_258 rfl ?_
    exact aw_lv _ (List.forall_mem_cons.mpr ⟨rfl, (List.forall_mem_cons.mpr ⟨rfl, (List.forall_mem_cons.mpr ⟨rfl, fun _ h => absurd h List.not_mem_nil⟩)⟩)⟩) (b_X11_readRows_260 mo mw ms mt mu dd wi hi sp li sr co hb n hms  v1 t0 v4 ((v3).toInt64) mr gt ta _ hE hF)
  · replace hE := fif hE c249
    refine aw_lload dX11_readRows_252 rfl ?_
    refine aw_lneg dX11_readRows_254 ?_
    refine aw_goto (tgt := 260) dX11_readRows_255 (by decide) ?_
    exact aw_lv _ (List.forall_mem_cons.mpr ⟨rfl, (List.forall_mem_cons.mpr ⟨rfl, (List.forall_mem_cons.mpr ⟨rfl, fun _ h => absurd h List.not_mem_nil⟩)⟩)⟩) (b_X11_readRows_260 mo mw ms mt mu dd wi hi sp li sr co hb n hms  v1 t0 (-v4) ((v3).toInt64) mr gt ta _ hE hF)
def F_X11_readRows_18 (sb : A)  (mr : MR) (gt : A) (ta : A) : Out (MR × A × A) Int32 := fok (0 : Int32) (mr, gt, ta)
set_option maxHeartbeats 1000000 in
set_option maxRecDepth 100000 in
theorem b_X11_readRows_18 (mo : MO) (mw : MW) (ms : Nat) (mt : A) (mu : A) (dd : A) (wi : A) (hi : A) (sp : A) (li : A) (sr : A) (co : A) (hb : aH) (n : Nat) (hms : isMS ms)  : Q_X11_readRows_18 mo mw ms mt mu dd wi hi sp li sr co hb n (F_X11_readRows_18 (srcB ms mt mu)) := by
  intro mr gt ta res hE hF
  unfold F_X11_readRows_18 at hE
  refine aw_iconst (v := 0) dX11_readRows_18 (by decide) ?_
  exact aw_zret dX11_readRows_19 rfl (narB (by decide)) (Nat.zero_le _) (Nat.zero_le _) (Nat.zero_le _) (Nat.zero_le _) ⟨_, _, hE.symm, rfl, rfl, rfl⟩
def F_X11_readRows (sb : A) (mr : MR) (gt : A) (ta : A) : Out (MR × A × A) Int32 := fon (F_X11_sign 66 sb mr) (fun z3 s3 => if z3 = 0 then (F_X11_readRows_18 sb s3 gt ta) else (fon (F_X11_sign 77 sb s3) (fun z12 s12 => if z12 = 0 then (F_X11_readRows_18 sb s12 gt ta) else (fon (F_X11_want 4 s12) (fun z22 s22 => if z22 = 0 then (fok (0 : Int32) (s22, gt, ta)) else (fon (F_X11_low 2 4 sb) (fun z33 s33 => if (lg_cmp z33 ((mr_size s22)).toInt64) = 0 then (fon (F_X11_want 4 ((mr_size s22), 6, (mr_kind s22), (mr_whr s22), (mr_gw s22), (mr_gh s22), (mr_one s22), (mr_two s22), (mr_three s22))) (fun z60 s60 => if z60 = 0 then (fok (0 : Int32) (s60, gt, ta)) else (fon (F_X11_low 6 4 sb) (fun z72 s72 => if (lg_cmp z72 0) = 0 then (fon (F_X11_want 4 ((mr_size s60), 10, (mr_kind s60), (mr_whr s60), (mr_gw s60), (mr_gh s60), (mr_one s60), (mr_two s60), (mr_three s60))) (fun z96 s96 => if z96 = 0 then (fok (0 : Int32) (s96, gt, ta)) else (fon (F_X11_low 10 4 sb) (fun z108 s108 => fon (F_X11_want 4 ((mr_size s96), 14, (mr_kind s96), (mr_whr s96), (mr_gw s96), (mr_gh s96), (mr_one s96), (mr_two s96), (mr_three s96))) (fun z120 s120 => if z120 = 0 then (fok (0 : Int32) (s120, gt, ta)) else (fon (F_X11_low 14 4 sb) (fun z132 s132 => if (lg_cmp z132 40) = 0 then (fon (F_X11_want 4 ((mr_size s120), 18, (mr_kind s120), (mr_whr s120), (mr_gw s120), (mr_gh s120), (mr_one s120), (mr_two s120), (mr_three s120))) (fun z158 s158 => if z158 = 0 then (fok (0 : Int32) (s158, gt, ta)) else (fon (F_X11_low 18 4 sb) (fun z170 s170 => if 1 ≤ (z170).toInt32 then (fon (F_X11_want 4 ((mr_size s158), 22, (mr_kind s158), (mr_whr s158), (mr_gw s158), (mr_gh s158), (mr_one s158), (mr_two s158), (mr_three s158))) (fun z196 s196 => if z196 = 0 then (fok (0 : Int32) (s196, gt, ta)) else (fon (F_X11_low 22 4 sb) (fun z208 s208 => if (lg_cmp ((z208).toInt32).toInt64 0) = 0 then (fon (F_X11_wrong 2 22 s196) (fun z226 s226 => if isB z226 then (fok (z226 : Int32) (s226, gt, ta)) else fno) (fun _ _ => fno)) else (if 0 ≤ (lg_cmp ((z208).toInt32).toInt64 0) then (F_X11_readRows_242 sb z108 ((z170).toInt32) (((z208).toInt32).toInt64) (0 : Int32) s196 gt ta) else (F_X11_readRows_242 sb z108 ((z170).toInt32) (((z208).toInt32).toInt64) (1 : Int32) s196 gt ta))) (fun _ _ => fno))) (fun _ _ => fno)) else (fon (F_X11_wrong 2 18 s158) (fun z184 s184 => if isB z184 then (fok (z184 : Int32) (s184, gt, ta)) else fno) (fun _ _ => fno))) (fun _ _ => fno))) (fun _ _ => fno)) else (fon (F_X11_wrong 2 14 s120) (fun z146 s146 => if isB z146 then (fok (z146 : Int32) (s146, gt, ta)) else fno) (fun _ _ => fno))) (fun _ _ => fno))) (fun _ _ => fno)) (fun _ _ => fno))) (fun _ _ => fno)) else (fon (F_X11_wrong 2 6 s60) (fun z84 s84 => if isB z84 then (fok (z84 : Int32) (s84, gt, ta)) else fno) (fun _ _ => fno))) (fun _ _ => fno))) (fun _ _ => fno)) else (fon (F_X11_wrong 2 2 s22) (fun z48 s48 => if isB z48 then (fok (z48 : Int32) (s48, gt, ta)) else fno) (fun _ _ => fno))) (fun _ _ => fno))) (fun _ _ => fno))) (fun _ _ => fno))) (fun _ _ => fno)
set_option maxHeartbeats 1000000 in
set_option maxRecDepth 100000 in
theorem kF_X11_readRows (mo : MO) (mw : MW) (mr : MR) (ms : Nat) (mt : A) (mu : A) (dd : A) (wi : A) (hi : A) (gt : A) (sp : A) (ta : A) (li : A) (sr : A) (co : A) (hb : aH) (n : Nat) (hms : isMS ms)  (hF : F_X11_readRows (srcB ms mt mu) mr gt ta ≠ fno) : AM mX11_readRows 4 [.ref 31] (HM mo mw mr ms mt mu dd wi hi gt sp ta li sr co hb) n 0 0 0 0 (P_X11_readRows mo mw ms mt mu dd wi hi sp li sr co hb n (F_X11_readRows (srcB ms mt mu) mr gt ta)) (fun _ _ _ => False) := by
  generalize hE : F_X11_readRows (srcB ms mt mu) mr gt ta = res at hF ⊢
  refine aw_of (by decide +kernel) rfl (Nat.le_of_ble_eq_true rfl) ?_
  unfold F_X11_readRows at hE
  refine aw_aload_n dX11_readRows_0 rfl ?_
  refine aw_bipush (v := 66) dX11_readRows_1 (by decide) ?_
  refine aw_callV dX11_readRows_3 at_mod cvX11_119 rfl (kF_X11_sign mo mw mr ms mt mu dd wi hi gt sp ta li sr co hb _ hms 66 (fon_ne hE hF)) rfl (Nat.le_of_ble_eq_true rfl) (by decide) (by decide) (by decide) (by decide) (fun _ _ _ hf => False.elim hf) (fun r3 h3 n3 hp3 => ?_)
  obtain ⟨z3, s3, e3, rfl, rfl, rfl⟩ := hp3
  replace hE := fon_ok e3 hE
  refine aw_if_eq (tgt := 18) dX11_readRows_6 (by decide) (fun c6 => ?_) (fun c6 => ?_)
  · replace hE := fit hE c6
    exact aw_lv _ (fun _ h => absurd h List.not_mem_nil) (b_X11_readRows_18 mo mw ms mt mu dd wi hi sp li sr co hb n hms  s3 gt ta _ hE hF)
  · replace hE := fif hE c6
    refine aw_aload_n dX11_readRows_9 rfl ?_
    refine aw_bipush (v := 77) dX11_readRows_10 (by decide) ?_
    refine aw_callV dX11_readRows_12 at_mod cvX11_119 rfl (kF_X11_sign mo mw s3 ms mt mu dd wi hi gt sp ta li sr co hb _ hms 77 (fon_ne hE hF)) rfl (Nat.le_of_ble_eq_true rfl) (by decide) (by decide) (by decide) (by decide) (fun _ _ _ hf => False.elim hf) (fun r12 h12 n12 hp12 => ?_)
    obtain ⟨z12, s12, e12, rfl, rfl, rfl⟩ := hp12
    replace hE := fon_ok e12 hE
    refine aw_if_ne (tgt := 20) dX11_readRows_15 (by decide) (fun c15 => ?_) (fun c15 => ?_)
    · replace hE := fif hE c15
      refine aw_aload_n dX11_readRows_20 rfl ?_
      refine aw_iconst (v := 4) dX11_readRows_21 (by decide) ?_
      refine aw_callV dX11_readRows_22 at_mod cvX11_103 rfl (kF_X11_want mo mw s12 ms mt mu dd wi hi gt sp ta li sr co hb _  4 (fon_ne hE hF)) rfl (Nat.le_of_ble_eq_true rfl) (by decide) (by decide) (by decide) (by decide) (fun _ _ _ hf => False.elim hf) (fun r22 h22 n22 hp22 => ?_)
      obtain ⟨z22, s22, e22, rfl, rfl, rfl⟩ := hp22
      replace hE := fon_ok e22 hE
      refine aw_if_ne (tgt := 30) dX11_readRows_25 (by decide) (fun c25 => ?_) (fun c25 => ?_)
      · replace hE := fif hE c25
        refine aw_aload_n dX11_readRows_30 rfl ?_
        refine aw_iconst (v := 2) dX11_readRows_31 (by decide) ?_
        refine aw_iconst (v := 4) dX11_readRows_32 (by decide) ?_
        refine aw_callV dX11_readRows_33 at_mod cvX11_183 rfl (kF_X11_low mo mw s22 ms mt mu dd wi hi gt sp ta li sr co hb _ hms 2 4 (fon_ne hE hF)) rfl (Nat.le_of_ble_eq_true rfl) (by decide) (by decide) (by decide) (by decide) (fun _ _ _ hf => False.elim hf) (fun r33 h33 n33 hp33 => ?_)
        obtain ⟨z33, s33, e33, rfl, rfl, rfl⟩ := hp33
        replace hE := fon_ok e33 hE
        refine aw_aload_n dX11_readRows_36 rfl ?_
        refine aw_getf (v := .int (mr_size s22)) dX11_readRows_37 flX11_87_10 at_mod rfl ?_
        refine aw_i2l dX11_readRows_40 ?_
        refine aw_lcmp dX11_readRows_41 ?_
        refine aw_if_eq (tgt := 52) dX11_readRows_42 (by decide) (fun c42 => ?_) (fun c42 => ?_)
        · replace hE := fit hE c42
          refine aw_aload_n dX11_readRows_52 rfl ?_
          refine aw_bipush (v := 6) dX11_readRows_53 (by decide) ?_
          refine aw_putf dX11_readRows_55 ptX11_84_10 at_mod (Nat.le_of_ble_eq_true rfl) ⟨rfl, rfl⟩ ?_
          refine aw_eqh (h2 := HM mo mw ((mr_size s22), 6, (mr_kind s22), (mr_whr s22), (mr_gw s22), (mr_gh s22), (mr_one s22), (mr_two s22), (mr_three s22)) ms mt mu dd wi hi gt sp ta li sr co hb) up_mod ?_
          refine aw_aload_n dX11_readRows_58 rfl ?_
          refine aw_iconst (v := 4) dX11_readRows_59 (by decide) ?_
          refine aw_callV dX11_readRows_60 at_mod cvX11_103 rfl (kF_X11_want mo mw ((mr_size s22), 6, (mr_kind s22), (mr_whr s22), (mr_gw s22), (mr_gh s22), (mr_one s22), (mr_two s22), (mr_three s22)) ms mt mu dd wi hi gt sp ta li sr co hb _  4 (fon_ne hE hF)) rfl (Nat.le_of_ble_eq_true rfl) (by decide) (by decide) (by decide) (by decide) (fun _ _ _ hf => False.elim hf) (fun r60 h60 n60 hp60 => ?_)
          obtain ⟨z60, s60, e60, rfl, rfl, rfl⟩ := hp60
          replace hE := fon_ok e60 hE
          refine aw_if_ne (tgt := 68) dX11_readRows_63 (by decide) (fun c63 => ?_) (fun c63 => ?_)
          · replace hE := fif hE c63
            refine aw_aload_n dX11_readRows_68 rfl ?_
            refine aw_bipush (v := 6) dX11_readRows_69 (by decide) ?_
            refine aw_iconst (v := 4) dX11_readRows_71 (by decide) ?_
            refine aw_callV dX11_readRows_72 at_mod cvX11_183 rfl (kF_X11_low mo mw s60 ms mt mu dd wi hi gt sp ta li sr co hb _ hms 6 4 (fon_ne hE hF)) rfl (Nat.le_of_ble_eq_true rfl) (by decide) (by decide) (by decide) (by decide) (fun _ _ _ hf => False.elim hf) (fun r72 h72 n72 hp72 => ?_)
            obtain ⟨z72, s72, e72, rfl, rfl, rfl⟩ := hp72
            replace hE := fon_ok e72 hE
            refine aw_lconst (v := 0) dX11_readRows_75 (by decide) ?_
            refine aw_lcmp dX11_readRows_76 ?_
            refine aw_if_eq (tgt := 88) dX11_readRows_77 (by decide) (fun c77 => ?_) (fun c77 => ?_)
            · replace hE := fit hE c77
              refine aw_aload_n dX11_readRows_88 rfl ?_
              refine aw_bipush (v := 10) dX11_readRows_89 (by decide) ?_
              refine aw_putf dX11_readRows_91 ptX11_84_10 at_mod (Nat.le_of_ble_eq_true rfl) ⟨rfl, rfl⟩ ?_
              refine aw_eqh (h2 := HM mo mw ((mr_size s60), 10, (mr_kind s60), (mr_whr s60), (mr_gw s60), (mr_gh s60), (mr_one s60), (mr_two s60), (mr_three s60)) ms mt mu dd wi hi gt sp ta li sr co hb) up_mod ?_
              refine aw_aload_n dX11_readRows_94 rfl ?_
              refine aw_iconst (v := 4) dX11_readRows_95 (by decide) ?_
              refine aw_callV dX11_readRows_96 at_mod cvX11_103 rfl (kF_X11_want mo mw ((mr_size s60), 10, (mr_kind s60), (mr_whr s60), (mr_gw s60), (mr_gh s60), (mr_one s60), (mr_two s60), (mr_three s60)) ms mt mu dd wi hi gt sp ta li sr co hb _  4 (fon_ne hE hF)) rfl (Nat.le_of_ble_eq_true rfl) (by decide) (by decide) (by decide) (by decide) (fun _ _ _ hf => False.elim hf) (fun r96 h96 n96 hp96 => ?_)
              obtain ⟨z96, s96, e96, rfl, rfl, rfl⟩ := hp96
              replace hE := fon_ok e96 hE
              refine aw_if_ne (tgt := 104) dX11_readRows_99 (by decide) (fun c99 => ?_) (fun c99 => ?_)
              · replace hE := fif hE c99
                refine aw_aload_n dX11_readRows_104 rfl ?_
                refine aw_bipush (v := 10) dX11_readRows_105 (by decide) ?_
                refine aw_iconst (v := 4) dX11_readRows_107 (by decide) ?_
                refine aw_callV dX11_readRows_108 at_mod cvX11_183 rfl (kF_X11_low mo mw s96 ms mt mu dd wi hi gt sp ta li sr co hb _ hms 10 4 (fon_ne hE hF)) rfl (Nat.le_of_ble_eq_true rfl) (by decide) (by decide) (by decide) (by decide) (fun _ _ _ hf => False.elim hf) (fun r108 h108 n108 hp108 => ?_)
                obtain ⟨z108, s108, e108, rfl, rfl, rfl⟩ := hp108
                replace hE := fon_ok e108 hE
                refine aw_lstore_n (lv2 := [(1, _), (0, _)]) dX11_readRows_111 (by decide) rfl ?_
                refine aw_aload_n dX11_readRows_112 rfl ?_
                refine aw_bipush (v := 14) dX11_readRows_113 (by decide) ?_
                refine aw_putf dX11_readRows_115 ptX11_84_10 at_mod (Nat.le_of_ble_eq_true rfl) ⟨rfl, rfl⟩ ?_
                refine aw_eqh (h2 := HM mo mw ((mr_size s96), 14, (mr_kind s96), (mr_whr s96), (mr_gw s96), (mr_gh s96), (mr_one s96), (mr_two s96), (mr_three s96)) ms mt mu dd wi hi gt sp ta li sr co hb) up_mod ?_
                refine aw_aload_n dX11_readRows_118 rfl ?_
                refine aw_iconst (v := 4) dX11_readRows_119 (by decide) ?_
                refine aw_callV dX11_readRows_120 at_mod cvX11_103 rfl (kF_X11_want mo mw ((mr_size s96), 14, (mr_kind s96), (mr_whr s96), (mr_gw s96), (mr_gh s96), (mr_one s96), (mr_two s96), (mr_three s96)) ms mt mu dd wi hi gt sp ta li sr co hb _  4 (fon_ne hE hF)) rfl (Nat.le_of_ble_eq_true rfl) (by decide) (by decide) (by decide) (by decide) (fun _ _ _ hf => False.elim hf) (fun r120 h120 n120 hp120 => ?_)
                obtain ⟨z120, s120, e120, rfl, rfl, rfl⟩ := hp120
                replace hE := fon_ok e120 hE
                refine aw_if_ne (tgt := 128) dX11_readRows_123 (by decide) (fun c123 => ?_) (fun c123 => ?_)
                · replace hE := fif hE c123
                  refine aw_aload_n dX11_readRows_128 rfl ?_
                  refine aw_bipush (v := 14) dX11_readRows_129 (by decide) ?_
                  refine aw_iconst (v := 4) dX11_readRows_131 (by decide) ?_
                  refine aw_callV dX11_readRows_132 at_mod cvX11_183 rfl (kF_X11_low mo mw s120 ms mt mu dd wi hi gt sp ta li sr co hb _ hms 14 4 (fon_ne hE hF)) rfl (Nat.le_of_ble_eq_true rfl) (by decide) (by decide) (by decide) (by decide) (fun _ _ _ hf => False.elim hf) (fun r132 h132 n132 hp132 => ?_)
                  obtain ⟨z132, s132, e132, rfl, rfl, rfl⟩ := hp132
                  replace hE := fon_ok e132 hE
                  refine aw_ldc2 dX11_readRows_135 kcX11_186 ?_
                  refine aw_lcmp dX11_readRows_138 ?_
                  refine aw_if_eq (tgt := 150) dX11_readRows_139 (by decide) (fun c139 => ?_) (fun c139 => ?_)
                  · replace hE := fit hE c139
                    refine aw_aload_n dX11_readRows_150 rfl ?_
                    refine aw_bipush (v := 18) dX11_readRows_151 (by decide) ?_
                    refine aw_putf dX11_readRows_153 ptX11_84_10 at_mod (Nat.le_of_ble_eq_true rfl) ⟨rfl, rfl⟩ ?_
                    refine aw_eqh (h2 := HM mo mw ((mr_size s120), 18, (mr_kind s120), (mr_whr s120), (mr_gw s120), (mr_gh s120), (mr_one s120), (mr_two s120), (mr_three s120)) ms mt mu dd wi hi gt sp ta li sr co hb) up_mod ?_
                    refine aw_aload_n dX11_readRows_156 rfl ?_
                    refine aw_iconst (v := 4) dX11_readRows_157 (by decide) ?_
                    refine aw_callV dX11_readRows_158 at_mod cvX11_103 rfl (kF_X11_want mo mw ((mr_size s120), 18, (mr_kind s120), (mr_whr s120), (mr_gw s120), (mr_gh s120), (mr_one s120), (mr_two s120), (mr_three s120)) ms mt mu dd wi hi gt sp ta li sr co hb _  4 (fon_ne hE hF)) rfl (Nat.le_of_ble_eq_true rfl) (by decide) (by decide) (by decide) (by decide) (fun _ _ _ hf => False.elim hf) (fun r158 h158 n158 hp158 => ?_)
                    obtain ⟨z158, s158, e158, rfl, rfl, rfl⟩ := hp158
                    replace hE := fon_ok e158 hE
                    refine aw_if_ne (tgt := 166) dX11_readRows_161 (by decide) (fun c161 => ?_) (fun c161 => ?_)
                    · replace hE := fif hE c161
                      refine aw_aload_n dX11_readRows_166 rfl ?_
                      refine aw_bipush (v := 18) dX11_readRows_167 (by decide) ?_
                      refine aw_iconst (v := 4) dX11_readRows_169 (by decide) ?_
                      refine aw_callV dX11_readRows_170 at_mod cvX11_183 rfl (kF_X11_low mo mw s158 ms mt mu dd wi hi gt sp ta li sr co hb _ hms 18 4 (fon_ne hE hF)) rfl (Nat.le_of_ble_eq_true rfl) (by decide) (by decide) (by decide) (by decide) (fun _ _ _ hf => False.elim hf) (fun r170 h170 n170 hp170 => ?_)
                      obtain ⟨z170, s170, e170, rfl, rfl, rfl⟩ := hp170
                      replace hE := fon_ok e170 hE
                      refine aw_l2i dX11_readRows_173 ?_
                      refine aw_istore_n (lv2 := [(3, _), (1, _), (0, _)]) dX11_readRows_174 (by decide) rfl ?_
                      refine aw_iload_n dX11_readRows_175 rfl ?_
                      refine aw_iconst (v := 1) dX11_readRows_176 (by decide) ?_
                      refine aw_icmp_ge (tgt := 188) dX11_readRows_177 (by decide) (fun c177 => ?_) (fun c177 => ?_)
                      · replace hE := fit hE c177
                        refine aw_aload_n dX11_readRows_188 rfl ?_
                        refine aw_bipush (v := 22) dX11_readRows_189 (by decide) ?_
                        refine aw_putf dX11_readRows_191 ptX11_84_10 at_mod (Nat.le_of_ble_eq_true rfl) ⟨rfl, rfl⟩ ?_
                        refine aw_eqh (h2 := HM mo mw ((mr_size s158), 22, (mr_kind s158), (mr_whr s158), (mr_gw s158), (mr_gh s158), (mr_one s158), (mr_two s158), (mr_three s158)) ms mt mu dd wi hi gt sp ta li sr co hb) up_mod ?_
                        refine aw_aload_n dX11_readRows_194 rfl ?_
                        refine aw_iconst (v := 4) dX11_readRows_195 (by decide) ?_
                        refine aw_callV dX11_readRows_196 at_mod cvX11_103 rfl (kF_X11_want mo mw ((mr_size s158), 22, (mr_kind s158), (mr_whr s158), (mr_gw s158), (mr_gh s158), (mr_one s158), (mr_two s158), (mr_three s158)) ms mt mu dd wi hi gt sp ta li sr co hb _  4 (fon_ne hE hF)) rfl (Nat.le_of_ble_eq_true rfl) (by decide) (by decide) (by decide) (by decide) (fun _ _ _ hf => False.elim hf) (fun r196 h196 n196 hp196 => ?_)
                        obtain ⟨z196, s196, e196, rfl, rfl, rfl⟩ := hp196
                        replace hE := fon_ok e196 hE
                        refine aw_if_ne (tgt := 204) dX11_readRows_199 (by decide) (fun c199 => ?_) (fun c199 => ?_)
                        · replace hE := fif hE c199
                          refine aw_aload_n dX11_readRows_204 rfl ?_
                          refine aw_bipush (v := 22) dX11_readRows_205 (by decide) ?_
                          refine aw_iconst (v := 4) dX11_readRows_207 (by decide) ?_
                          refine aw_callV dX11_readRows_208 at_mod cvX11_183 rfl (kF_X11_low mo mw s196 ms mt mu dd wi hi gt sp ta li sr co hb _ hms 22 4 (fon_ne hE hF)) rfl (Nat.le_of_ble_eq_true rfl) (by decide) (by decide) (by decide) (by decide) (fun _ _ _ hf => False.elim hf) (fun r208 h208 n208 hp208 => ?_)
                          obtain ⟨z208, s208, e208, rfl, rfl, rfl⟩ := hp208
                          replace hE := fon_ok e208 hE
                          refine aw_l2i dX11_readRows_211 ?_
                          refine aw_i2l dX11_readRows_212 ?_
                          refine aw_lstore (lv2 := [(4, _), (3, _), (1, _), (0, _)]) dX11_readRows_213 (by decide) rfl ?_
                          refine aw_lload dX11_readRows_215 rfl ?_
                          refine aw_lconst (v := 0) dX11_readRows_217 (by decide) ?_
                          refine aw_lcmp dX11_readRows_218 ?_
                          refine aw_if_ne (tgt := 230) dX11_readRows_219 (by decide) (fun c219 => ?_) (fun c219 => ?_)
                          · replace hE := fif hE c219
                            refine aw_lload dX11_readRows_230 rfl ?_
                            refine aw_lconst (v := 0) dX11_readRows_232 (by decide) ?_
                            refine aw_lcmp dX11_readRows_233 ?_
                            refine aw_if_ge (tgt := 241) dX11_readRows_234 (by decide) (fun c234 => ?_) (fun c234 => ?_)
                            · replace hE := fit hE c234
                              refine aw_iconst (v := 0) dX11_readRows_241 (by decide) ?_
                              exact aw_lv _ (List.forall_mem_cons.mpr ⟨rfl, (List.forall_mem_cons.mpr ⟨rfl, (List.forall_mem_cons.mpr ⟨rfl, (List.forall_mem_cons.mpr ⟨rfl, fun _ h => absurd h List.not_mem_nil⟩)⟩)⟩)⟩) (b_X11_readRows_242 mo mw ms mt mu dd wi hi sp li sr co hb n hms  z108 ((z170).toInt32) (((z208).toInt32).toInt64) (0 : Int32) s196 gt ta _ hE hF)
                            · replace hE := fif hE c234
                              refine aw_iconst (v := 1) dX11_readRows_237 (by decide) ?_
                              refine aw_goto (tgt := 242) dX11_readRows_238 (by decide) ?_
                              exact aw_lv _ (List.forall_mem_cons.mpr ⟨rfl, (List.forall_mem_cons.mpr ⟨rfl, (List.forall_mem_cons.mpr ⟨rfl, (List.forall_mem_cons.mpr ⟨rfl, fun _ h => absurd h List.not_mem_nil⟩)⟩)⟩)⟩) (b_X11_readRows_242 mo mw ms mt mu dd wi hi sp li sr co hb n hms  z108 ((z170).toInt32) (((z208).toInt32).toInt64) (1 : Int32) s196 gt ta _ hE hF)
                          · replace hE := fit hE c219
                            refine aw_aload_n dX11_readRows_222 rfl ?_
                            refine aw_iconst (v := 2) dX11_readRows_223 (by decide) ?_
                            refine aw_bipush (v := 22) dX11_readRows_224 (by decide) ?_
                            refine aw_callV dX11_readRows_226 at_mod cvX11_90 rfl (kF_X11_wrong mo mw s196 ms mt mu dd wi hi gt sp ta li sr co hb _  2 22 (fon_ne hE hF)) rfl (Nat.le_of_ble_eq_true rfl) (by decide) (by decide) (by decide) (by decide) (fun _ _ _ hf => False.elim hf) (fun r226 h226 n226 hp226 => ?_)
                            obtain ⟨z226, s226, e226, rfl, rfl, rfl⟩ := hp226
                            replace hE := fon_ok e226 hE
                            obtain ⟨g229, hE⟩ := fgd hE hF
                            exact aw_zret dX11_readRows_229 rfl (narB g229) (Nat.zero_le _) (Nat.zero_le _) (Nat.zero_le _) (Nat.zero_le _) ⟨_, _, hE.symm, rfl, rfl, rfl⟩
                        · replace hE := fit hE c199
                          refine aw_iconst (v := 0) dX11_readRows_202 (by decide) ?_
                          exact aw_zret dX11_readRows_203 rfl (narB (by decide)) (Nat.zero_le _) (Nat.zero_le _) (Nat.zero_le _) (Nat.zero_le _) ⟨_, _, hE.symm, rfl, rfl, rfl⟩
                      · replace hE := fif hE c177
                        refine aw_aload_n dX11_readRows_180 rfl ?_
                        refine aw_iconst (v := 2) dX11_readRows_181 (by decide) ?_
                        refine aw_bipush (v := 18) dX11_readRows_182 (by decide) ?_
                        refine aw_callV dX11_readRows_184 at_mod cvX11_90 rfl (kF_X11_wrong mo mw s158 ms mt mu dd wi hi gt sp ta li sr co hb _  2 18 (fon_ne hE hF)) rfl (Nat.le_of_ble_eq_true rfl) (by decide) (by decide) (by decide) (by decide) (fun _ _ _ hf => False.elim hf) (fun r184 h184 n184 hp184 => ?_)
                        obtain ⟨z184, s184, e184, rfl, rfl, rfl⟩ := hp184
                        replace hE := fon_ok e184 hE
                        obtain ⟨g187, hE⟩ := fgd hE hF
                        exact aw_zret dX11_readRows_187 rfl (narB g187) (Nat.zero_le _) (Nat.zero_le _) (Nat.zero_le _) (Nat.zero_le _) ⟨_, _, hE.symm, rfl, rfl, rfl⟩
                    · replace hE := fit hE c161
                      refine aw_iconst (v := 0) dX11_readRows_164 (by decide) ?_
                      exact aw_zret dX11_readRows_165 rfl (narB (by decide)) (Nat.zero_le _) (Nat.zero_le _) (Nat.zero_le _) (Nat.zero_le _) ⟨_, _, hE.symm, rfl, rfl, rfl⟩
                  · replace hE := fif hE c139
                    refine aw_aload_n dX11_readRows_142 rfl ?_
                    refine aw_iconst (v := 2) dX11_readRows_143 (by decide) ?_
                    refine aw_bipush (v := 14) dX11_readRows_144 (by decide) ?_
                    refine aw_callV dX11_readRows_146 at_mod cvX11_90 rfl (kF_X11_wrong mo mw s120 ms mt mu dd wi hi gt sp ta li sr co hb _  2 14 (fon_ne hE hF)) rfl (Nat.le_of_ble_eq_true rfl) (by decide) (by decide) (by decide) (by decide) (fun _ _ _ hf => False.elim hf) (fun r146 h146 n146 hp146 => ?_)
                    obtain ⟨z146, s146, e146, rfl, rfl, rfl⟩ := hp146
                    replace hE := fon_ok e146 hE
                    obtain ⟨g149, hE⟩ := fgd hE hF
                    exact aw_zret dX11_readRows_149 rfl (narB g149) (Nat.zero_le _) (Nat.zero_le _) (Nat.zero_le _) (Nat.zero_le _) ⟨_, _, hE.symm, rfl, rfl, rfl⟩
                · replace hE := fit hE c123
                  refine aw_iconst (v := 0) dX11_readRows_126 (by decide) ?_
                  exact aw_zret dX11_readRows_127 rfl (narB (by decide)) (Nat.zero_le _) (Nat.zero_le _) (Nat.zero_le _) (Nat.zero_le _) ⟨_, _, hE.symm, rfl, rfl, rfl⟩
              · replace hE := fit hE c99
                refine aw_iconst (v := 0) dX11_readRows_102 (by decide) ?_
                exact aw_zret dX11_readRows_103 rfl (narB (by decide)) (Nat.zero_le _) (Nat.zero_le _) (Nat.zero_le _) (Nat.zero_le _) ⟨_, _, hE.symm, rfl, rfl, rfl⟩
            · replace hE := fif hE c77
              refine aw_aload_n dX11_readRows_80 rfl ?_
              refine aw_iconst (v := 2) dX11_readRows_81 (by decide) ?_
              refine aw_bipush (v := 6) dX11_readRows_82 (by decide) ?_
              refine aw_callV dX11_readRows_84 at_mod cvX11_90 rfl (kF_X11_wrong mo mw s60 ms mt mu dd wi hi gt sp ta li sr co hb _  2 6 (fon_ne hE hF)) rfl (Nat.le_of_ble_eq_true rfl) (by decide) (by decide) (by decide) (by decide) (fun _ _ _ hf => False.elim hf) (fun r84 h84 n84 hp84 => ?_)
              obtain ⟨z84, s84, e84, rfl, rfl, rfl⟩ := hp84
              replace hE := fon_ok e84 hE
              obtain ⟨g87, hE⟩ := fgd hE hF
              exact aw_zret dX11_readRows_87 rfl (narB g87) (Nat.zero_le _) (Nat.zero_le _) (Nat.zero_le _) (Nat.zero_le _) ⟨_, _, hE.symm, rfl, rfl, rfl⟩
          · replace hE := fit hE c63
            refine aw_iconst (v := 0) dX11_readRows_66 (by decide) ?_
            exact aw_zret dX11_readRows_67 rfl (narB (by decide)) (Nat.zero_le _) (Nat.zero_le _) (Nat.zero_le _) (Nat.zero_le _) ⟨_, _, hE.symm, rfl, rfl, rfl⟩
        · replace hE := fif hE c42
          refine aw_aload_n dX11_readRows_45 rfl ?_
          refine aw_iconst (v := 2) dX11_readRows_46 (by decide) ?_
          refine aw_iconst (v := 2) dX11_readRows_47 (by decide) ?_
          refine aw_callV dX11_readRows_48 at_mod cvX11_90 rfl (kF_X11_wrong mo mw s22 ms mt mu dd wi hi gt sp ta li sr co hb _  2 2 (fon_ne hE hF)) rfl (Nat.le_of_ble_eq_true rfl) (by decide) (by decide) (by decide) (by decide) (fun _ _ _ hf => False.elim hf) (fun r48 h48 n48 hp48 => ?_)
          obtain ⟨z48, s48, e48, rfl, rfl, rfl⟩ := hp48
          replace hE := fon_ok e48 hE
          obtain ⟨g51, hE⟩ := fgd hE hF
          exact aw_zret dX11_readRows_51 rfl (narB g51) (Nat.zero_le _) (Nat.zero_le _) (Nat.zero_le _) (Nat.zero_le _) ⟨_, _, hE.symm, rfl, rfl, rfl⟩
      · replace hE := fit hE c25
        refine aw_iconst (v := 0) dX11_readRows_28 (by decide) ?_
        exact aw_zret dX11_readRows_29 rfl (narB (by decide)) (Nat.zero_le _) (Nat.zero_le _) (Nat.zero_le _) (Nat.zero_le _) ⟨_, _, hE.symm, rfl, rfl, rfl⟩
    · replace hE := fit hE c15
      exact aw_lv _ (fun _ h => absurd h List.not_mem_nil) (b_X11_readRows_18 mo mw ms mt mu dd wi hi sp li sr co hb n hms  s12 gt ta _ hE hF)
