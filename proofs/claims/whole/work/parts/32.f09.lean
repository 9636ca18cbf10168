def P_X9_readPacketHead (m0 : Mnt) (sh : Nat → Nat) (rr : Nat → Ras) (ww : Nat → Row) (so : Nat) (pl : Pal) (qo : Qoi) (pn : Pnm) (bm : Bmp) (px : Pcx) (fa : A) (hb : aH) (n : Nat) (res : Out (Src × Tga) Unit) : Option Value → aH → Nat → Prop := fun r1 h2 n2 => ∃ (a : Unit) (s : (Src × Tga)), res = fok a s ∧ r1 = none ∧ h2 = HC m0 sh rr ww so s.1 pl qo pn bm s.2 px fa hb ∧ n = n2
def X_X9_readPacketHead (m0 : Mnt) (sh : Nat → Nat) (rr : Nat → Ras) (ww : Nat → Row) (so : Nat) (pl : Pal) (qo : Qoi) (pn : Pnm) (bm : Bmp) (px : Pcx) (fa : A) (hb : aH) (n : Nat) (res : Out (Src × Tga) Unit) : String → aH → Nat → Prop := fun E h2 n2 => ∃ s : (Src × Tga), res = fex E s ∧ h2 = HC m0 sh rr ww so s.1 pl qo pn bm s.2 px fa hb ∧ n = n2
abbrev Q_X9_readPacketHead_24 (m0 : Mnt) (sh : Nat → Nat) (rr : Nat → Ras) (ww : Nat → Row) (so : Nat) (pl : Pal) (qo : Qoi) (pn : Pnm) (bm : Bmp) (px : Pcx) (fa : A) (hb : aH) (n : Nat) (k : Int32 → Int32 → Int32 → Int32 → Src → Tga → Out (Src × Tga) Unit) : Prop := ∀ (v2 : Int32) (v3 : Int32) (v4 : Int32) (t0 : Int32) (sc : Src) (tg : Tga) (res : Out (Src × Tga) Unit), k v2 v3 v4 t0 sc tg = res → res ≠ fno → AW (fun _ _ => True) mX9_readPacketHead (rmD 4 1 6) 0 0 (P_X9_readPacketHead m0 sh rr ww so pl qo pn bm px fa hb n res) (X_X9_readPacketHead m0 sh rr ww so pl qo pn bm px fa hb n res) 0 0 24 [(0, .ref 26), (1, .ref 16), (2, .int v2), (3, .int v3), (4, .int v4)] [.int t0, .ref 26] (HC m0 sh rr ww so sc pl qo pn bm tg px fa hb) n
def F_X9_readPacketHead_24 (sb : A)  (v2 : Int32) (v3 : Int32) (v4 : Int32) (t0 : Int32) (sc : Src) (tg : Tga) : Out (Src × Tga) Unit := if isB t0 then (if ((v4 &&& 127) + 1) ≤ v2 then (fok () (sc, ((tg_f1 tg), (tg_f2 tg), (tg_f3 tg), (tg_map tg), (tg_type tg), (tg_fe tg), (tg_many tg), (tg_deep tg), (tg_bits tg), (tg_flags tg), (tg_ab tg), (tg_idx tg), ((tg_packets tg) + 1), ((v4 &&& 127) + 1), t0, (tg_ent tg)))) else (fon (F_X8_refuse 4 v3 sc) (fun _ _ => fno) (fun E s49 => fex E (s49, ((tg_f1 tg), (tg_f2 tg), (tg_f3 tg), (tg_map tg), (tg_type tg), (tg_fe tg), (tg_many tg), (tg_deep tg), (tg_bits tg), (tg_flags tg), (tg_ab tg), (tg_idx tg), (tg_packets tg), ((v4 &&& 127) + 1), t0, (tg_ent tg)))))) else fno
set_option maxHeartbeats 1000000 in
set_option maxRecDepth 100000 in
theorem b_X9_readPacketHead_24 (m0 : Mnt) (sh : Nat → Nat) (rr : Nat → Ras) (ww : Nat → Row) (so : Nat) (pl : Pal) (qo : Qoi) (pn : Pnm) (bm : Bmp) (px : Pcx) (fa : A) (hb : aH) (n : Nat) (hso : isW so)  : Q_X9_readPacketHead_24 m0 sh rr ww so pl qo pn bm px fa hb n (F_X9_readPacketHead_24 (y_b (ww so))) := by
  intro v2 v3 v4 t0 sc tg res hE hF
  unfold F_X9_readPacketHead_24 at hE
  obtain ⟨g24, hE⟩ := fgd hE hF
  refine aw_putf dX9_readPacketHead_24 ptX9_133_8 at_tga (Nat.le_of_ble_eq_true rfl) (vokB g24) ?_
  refine aw_eqh (h2 := HC m0 sh rr ww so sc pl qo pn bm ((tg_f1 tg), (tg_f2 tg), (tg_f3 tg), (tg_map tg), (tg_type tg), (tg_fe tg), (tg_many tg), (tg_deep tg), (tg_bits tg), (tg_flags tg), (tg_ab tg), (tg_idx tg), (tg_packets tg), (tg_left tg), t0, (tg_ent tg)) px fa hb) up_tga ?_
  refine aw_aload_n dX9_readPacketHead_27 rfl ?_
  refine aw_iload dX9_readPacketHead_28 rfl ?_
  refine aw_bipush (v := 127) dX9_readPacketHead_30 (by decide) ?_
  refine aw_iand dX9_readPacketHead_32 ?_
  refine aw_iconst (v := 1) dX9_readPacketHead_33 (by decide) ?_
  refine aw_iadd dX9_readPacketHead_34 ?_
  refine aw_putf dX9_readPacketHead_35 ptX9_118_8 at_tga (Nat.le_of_ble_eq_true rfl) ⟨rfl, rfl⟩ ?_
  refine aw_eqh (h2 := HC m0 sh rr ww so sc pl qo pn bm ((tg_f1 tg), (tg_f2 tg), (tg_f3 tg), (tg_map tg), (tg_type tg), (tg_fe tg), (tg_many tg), (tg_deep tg), (tg_bits tg), (tg_flags tg), (tg_ab tg), (tg_idx tg), (tg_packets tg), ((v4 &&& 127) + 1), t0, (tg_ent tg)) px fa hb) up_tga ?_
  refine aw_aload_n dX9_readPacketHead_38 rfl ?_
  refine aw_getf (v := .int ((v4 &&& 127) + 1)) dX9_readPacketHead_39 flX9_118_8 at_tga rfl ?_
  refine aw_iload_n dX9_readPacketHead_42 rfl ?_
  refine aw_icmp_le (tgt := 52) dX9_readPacketHead_43 (by decide) (fun c43 => ?_) (fun c43 => ?_)
  · replace hE := fit hE c43
    refine aw_aload_n dX9_readPacketHead_52 rfl ?_
    refine aw_dup dX9_readPacketHead_53 rfl ?_
    refine aw_getf (v := .int (tg_packets tg)) dX9_readPacketHead_54 flX9_68_8 at_tga rfl ?_
    refine aw_iconst (v := 1) dX9_readPacketHead_57 (by decide) ?_
    refine aw_iadd dX9_readPacketHead_58 ?_
    refine aw_putf dX9_readPacketHead_59 ptX9_68_8 at_tga (Nat.le_of_ble_eq_true rfl) ⟨rfl, rfl⟩ ?_
    refine aw_eqh (h2 := HC m0 sh rr ww so sc pl qo pn bm ((tg_f1 tg), (tg_f2 tg), (tg_f3 tg), (tg_map tg), (tg_type tg), (tg_fe tg), (tg_many tg), (tg_deep tg), (tg_bits tg), (tg_flags tg), (tg_ab tg), (tg_idx tg), ((tg_packets tg) + 1), ((v4 &&& 127) + 1), t0, (tg_ent tg)) px fa hb) up_tga ?_
    exact aw_vret dX9_readPacketHead_62 rfl (Nat.zero_le _) (Nat.zero_le _) (Nat.zero_le _) (Nat.zero_le _) ⟨_, _, hE.symm, rfl, rfl, rfl⟩
  · replace hE := fif hE c43
    refine aw_aload_n dX9_readPacketHead_46 rfl ?_
    refine aw_iconst (v := 4) dX9_readPacketHead_47 (by decide) ?_
    refine aw_iload_n dX9_readPacketHead_48 rfl ?_
    refine aw_callV dX9_readPacketHead_49 at_src cvX9_80 rfl (kF_X8_refuse m0 sh rr ww so sc pl qo pn bm ((tg_f1 tg), (tg_f2 tg), (tg_f3 tg), (tg_map tg), (tg_type tg), (tg_fe tg), (tg_many tg), (tg_deep tg), (tg_bits tg), (tg_flags tg), (tg_ab tg), (tg_idx tg), (tg_packets tg), ((v4 &&& 127) + 1), t0, (tg_ent tg)) px fa hb _  4 v3 (fon_ne hE hF)) rfl (Nat.le_of_ble_eq_true rfl) (by decide) (by decide) (by decide) (by decide) (fun E h2 n2 hx => aw_out rfl (by decide) (by decide) (by obtain ⟨s49, e49, rfl, rfl⟩ := hx; exact ⟨_, (fon_ex e49 hE).symm, rfl, rfl⟩)) (fun r49 h49 n49 hp49 => ?_)
    obtain ⟨z49, s49, e49, rfl, rfl, rfl⟩ := hp49
    exact (hF (fon_ok e49 hE).symm).elim
def F_X9_readPacketHead (a2 : Int32) (sc : Src) (sb : A) (tg : Tga) : Out (Src × Tga) Unit := fon (F_X8_next sc sb) (fun z6 s6 => if z6 ≤ 127 then (F_X9_readPacketHead_24 sb a2 (sc_pos sc) z6 (0 : Int32) s6 tg) else (F_X9_readPacketHead_24 sb a2 (sc_pos sc) z6 (1 : Int32) s6 tg)) (fun E s6 => fex E (s6, tg))
set_option maxHeartbeats 1000000 in
set_option maxRecDepth 100000 in
theorem kF_X9_readPacketHead (m0 : Mnt) (sh : Nat → Nat) (rr : Nat → Ras) (ww : Nat → Row) (so : Nat) (sc : Src) (pl : Pal) (qo : Qoi) (pn : Pnm) (bm : Bmp) (tg : Tga) (px : Pcx) (fa : A) (hb : aH) (n : Nat) (hso : isW so) (a2 : Int32) (hF : F_X9_readPacketHead a2 sc (y_b (ww so)) tg ≠ fno) : AM mX9_readPacketHead 4 [.ref 26, .ref 16, .int a2] (HC m0 sh rr ww so sc pl qo pn bm tg px fa hb) n 1 6 0 0 (P_X9_readPacketHead m0 sh rr ww so pl qo pn bm px fa hb n (F_X9_readPacketHead a2 sc (y_b (ww so)) tg)) (X_X9_readPacketHead m0 sh rr ww so pl qo pn bm px fa hb n (F_X9_readPacketHead a2 sc (y_b (ww so)) tg)) := by
  generalize hE : F_X9_readPacketHead a2 sc (y_b (ww so)) tg = res at hF ⊢
  refine aw_of (by decide +kernel) rfl (Nat.le_of_ble_eq_true rfl) ?_
  unfold F_X9_readPacketHead at hE
  refine aw_aload_n dX9_readPacketHead_0 rfl ?_
  refine aw_getf (v := .int (sc_pos sc)) dX9_readPacketHead_1 flX9_74_7 at_src rfl ?_
  refine aw_istore_n (lv2 := [(3, _), (0, _), (1, _), (2, _)]) dX9_readPacketHead_4 (by decide) rfl ?_
  refine aw_aload_n dX9_readPacketHead_5 rfl ?_
  refine aw_callV dX9_readPacketHead_6 at_src cvX9_19 rfl (kF_X8_next m0 sh rr ww so sc pl qo pn bm tg px fa hb _ hso  (fon_ne hE hF)) rfl (Nat.le_of_ble_eq_true rfl) (by decide) (by decide) (by decide) (by decide) (fun E h2 n2 hx => aw_out rfl (by decide) (by decide) (by obtain ⟨s6, e6, rfl, rfl⟩ := hx; exact ⟨_, (fon_ex e6 hE).symm, rfl, rfl⟩)) (fun r6 h6 n6 hp6 => ?_)
  obtain ⟨z6, s6, e6, rfl, rfl, rfl⟩ := hp6
  replace hE := fon_ok e6 hE
  refine aw_istore (lv2 := [(4, _), (3, _), (0, _), (1, _), (2, _)]) dX9_readPacketHead_9 (by decide) rfl ?_
  refine aw_aload_n dX9_readPacketHead_11 rfl ?_
  refine aw_iload dX9_readPacketHead_12 rfl ?_
  refine aw_bipush (v := 127) dX9_readPacketHead_14 (by decide) ?_
  refine aw_icmp_le (tgt := 23) dX9_readPacketHead_16 (by decide) (fun c16 => ?_) (fun c16 => ?_)
  · replace hE := fit hE c16
    refine aw_iconst (v := 0) dX9_readPacketHead_23 (by decide) ?_
    exact aw_lv _ (List.forall_mem_cons.mpr ⟨rfl, (List.forall_mem_cons.mpr ⟨rfl, (List.forall_mem_cons.mpr ⟨rfl, (List.forall_mem_cons.mpr ⟨rfl, (List.forall_mem_cons.mpr ⟨rfl, fun _ h => absurd h List.not_mem_nil⟩)⟩)⟩)⟩)⟩) (b_X9_readPacketHead_24 m0 sh rr ww so pl qo pn bm px fa hb n hso  a2 (sc_pos sc) z6 (0 : Int32) s6 tg _ hE hF)
  · replace hE := fif hE c16
    refine aw_iconst (v := 1) dX9_readPacketHead_19 (by decide) ?_
    refine aw_goto (tgt := 24) dX9_readPacketHead_20 (by decide) ?_
    exact aw_lv _ (List.forall_mem_cons.mpr ⟨rfl, (List.forall_mem_cons.mpr ⟨rfl, (List.forall_mem_cons.mpr ⟨rfl, (List.forall_mem_cons.mpr ⟨rfl, (List.forall_mem_cons.mpr ⟨rfl, fun _ h => absurd h List.not_mem_nil⟩)⟩)⟩)⟩)⟩) (b_X9_readPacketHead_24 m0 sh rr ww so pl qo pn bm px fa hb n hso  a2 (sc_pos sc) z6 (1 : Int32) s6 tg _ hE hF)
def P_X11_thrown (mo : MO) (mw : MW) (mr : MR) (ms : Nat) (mt : A) (mu : A) (dd : A) (wi : A) (hi : A) (gt : A) (sp : A) (ta : A) (li : A) (sr : A) (co : A) (hb : aH) (n : Nat) (res : Out Unit Int32) : Option Value → aH → Nat → Prop := fun r1 h2 n2 => ∃ (a : Int32) (s : Unit), res = fok a s ∧ r1 = some (.int a) ∧ h2 = HM mo mw mr ms mt mu dd wi hi gt sp ta li sr co hb ∧ n = n2
def F_X11_thrown (mo : MO) : Out Unit Int32 := fok ((mo_thrown mo) : Int32) ()
set_option maxHeartbeats 1000000 in
set_option maxRecDepth 100000 in
theorem kF_X11_thrown (mo : MO) (mw : MW) (mr : MR) (ms : Nat) (mt : A) (mu : A) (dd : A) (wi : A) (hi : A) (gt : A) (sp : A) (ta : A) (li : A) (sr : A) (co : A) (hb : aH) (n : Nat)   (hF : F_X11_thrown mo ≠ fno) : AM mX11_thrown 1 [.ref 31] (HM mo mw mr ms mt mu dd wi hi gt sp ta li sr co hb) n 0 0 0 0 (P_X11_thrown mo mw mr ms mt mu dd wi hi gt sp ta li sr co hb n (F_X11_thrown mo)) (fun _ _ _ => False) := by
  generalize hE : F_X11_thrown mo = res at hF ⊢
  refine aw_of (by decide +kernel) rfl (Nat.le_of_ble_eq_true rfl) ?_
  unfold F_X11_thrown at hE
  refine aw_aload_n dX11_thrown_0 rfl ?_
  refine aw_getf (v := .int (mo_thrown mo)) dX11_thrown_1 flX11_61_10 at_mod rfl ?_
  exact aw_iret dX11_thrown_4 rfl (Nat.zero_le _) (Nat.zero_le _) (Nat.zero_le _) (Nat.zero_le _) ⟨_, _, hE.symm, rfl, rfl, rfl⟩
def P_X11_four (mw : MW) (mr : MR) (ms : Nat) (mu : A) (dd : A) (wi : A) (hi : A) (gt : A) (sp : A) (ta : A) (li : A) (sr : A) (co : A) (hb : aH) (n : Nat) (res : Out (MO × A) Unit) : Option Value → aH → Nat → Prop := fun r1 h2 n2 => ∃ (a : Unit) (s : (MO × A)), res = fok a s ∧ r1 = none ∧ h2 = HM s.1 mw mr ms s.2 mu dd wi hi gt sp ta li sr co hb ∧ n = n2
abbrev Q_X11_four_3 (mw : MW) (mr : MR) (ms : Nat) (mu : A) (dd : A) (wi : A) (hi : A) (gt : A) (sp : A) (ta : A) (li : A) (sr : A) (co : A) (hb : aH) (n : Nat) (k : Int32 → Int32 → MO → A → Out (MO × A) Unit) : Prop := ∀ (v1 : Int32) (v2 : Int32) (mo : MO) (mt : A) (res : Out (MO × A) Unit), k v1 v2 mo mt = res → res ≠ fno → AW (fun _ _ => True) mX11_four (rmD 1 0 0) 0 0 (P_X11_four mw mr ms mu dd wi hi gt sp ta li sr co hb n res) (fun _ _ _ => False) 0 0 3 [(0, .ref 31), (1, .int v1), (2, .int v2)] [] (HM mo mw mr ms mt mu dd wi hi gt sp ta li sr co hb) n
def F_X11_four_3  (k3 : Int32 → Int32 → MO → A → Out (MO × A) Unit) (v1 : Int32) (v2 : Int32) (mo : MO) (mt : A) : Out (MO × A) Unit := if v2 < 0 then (fok () (mo, mt)) else (if inb (mo_taped mo) 65536 then (k3 v1 (v2 + (-8)) (((mo_taped mo) + 1), (mo_thrown mo), (mo_tf mo), (mo_t1 mo), (mo_t2 mo), (mo_t3 mo), (mo_fp mo)) (upd mt (Int32.toNatClampNeg (mo_taped mo)) (vp_nar .byte ((v1 >>> (v2 &&& 31))).toInt8.toInt32))) else fno)
set_option maxHeartbeats 1000000 in
set_option maxRecDepth 100000 in
theorem b_X11_four_3 (mw : MW) (mr : MR) (ms : Nat) (mu : A) (dd : A) (wi : A) (hi : A) (gt : A) (sp : A) (ta : A) (li : A) (sr : A) (co : A) (hb : aH) (n : Nat)  (k3 : Int32 → Int32 → MO → A → Out (MO × A) Unit) (hk3 : Q_X11_four_3 mw mr ms mu dd wi hi gt sp ta li sr co hb n k3) : Q_X11_four_3 mw mr ms mu dd wi hi gt sp ta li sr co hb n (F_X11_four_3 k3) := by
  intro v1 v2 mo mt res hE hF
  unfold F_X11_four_3 at hE
  refine aw_iload_n dX11_four_3 rfl ?_
  refine aw_if_lt (tgt := 36) dX11_four_4 (by decide) (fun c4 => ?_) (fun c4 => ?_)
  · replace hE := fit hE c4
    exact aw_vret dX11_four_36 rfl (Nat.zero_le _) (Nat.zero_le _) (Nat.zero_le _) (Nat.zero_le _) ⟨_, _, hE.symm, rfl, rfl, rfl⟩
  · replace hE := fif hE c4
    refine aw_aload_n dX11_four_7 rfl ?_
    refine aw_getf (v := .ref 32) dX11_four_8 flX11_10_10 at_mod rfl ?_
    refine aw_aload_n dX11_four_11 rfl ?_
    refine aw_getf (v := .int (mo_taped mo)) dX11_four_12 flX11_64_10 at_mod rfl ?_
    refine aw_iload_n dX11_four_15 rfl ?_
    refine aw_iload_n dX11_four_16 rfl ?_
    refine aw_ishr dX11_four_17 ?_
    refine aw_i2b dX11_four_18 ?_
    obtain ⟨g19, hE⟩ := fgd hE hF
    refine aw_bast (f := mt) dX11_four_19 at_mtape (vp_in_iff.mpr g19) ?_
    refine aw_eqh (h2 := HM mo mw mr ms (upd mt (Int32.toNatClampNeg (mo_taped mo)) (vp_nar .byte ((v1 >>> (v2 &&& 31))).toInt8.toInt32)) mu dd wi hi gt sp ta li sr co hb) up_mtape ?_
    refine aw_aload_n dX11_four_20 rfl ?_
    refine aw_dup dX11_four_21 rfl ?_
    refine aw_getf (v := .int (mo_taped mo)) dX11_four_22 flX11_64_10 at_mod rfl ?_
    refine aw_iconst (v := 1) dX11_four_25 (by decide) ?_
    refine aw_iadd dX11_four_26 ?_
    refine aw_putf dX11_four_27 ptX11_64_10 at_mod (Nat.le_of_ble_eq_true rfl) ⟨rfl, rfl⟩ ?_
    refine aw_eqh (h2 := HM (((mo_taped mo) + 1), (mo_thrown mo), (mo_tf mo), (mo_t1 mo), (mo_t2 mo), (mo_t3 mo), (mo_fp mo)) mw mr ms (upd mt (Int32.toNatClampNeg (mo_taped mo)) (vp_nar .byte ((v1 >>> (v2 &&& 31))).toInt8.toInt32)) mu dd wi hi gt sp ta li sr co hb) up_mod ?_
    refine aw_iinc (v := (v2 + (-8))) (lv2 := [(2, _), (0, _), (1, _)]) dX11_four_30 rfl (incE (by decide)) (by decide) rfl ?_
    refine aw_goto (tgt := 3) dX11_four_33 (by decide) ?_
    exact aw_lv _ (List.forall_mem_cons.mpr ⟨rfl, (List.forall_mem_cons.mpr ⟨rfl, (List.forall_mem_cons.mpr ⟨rfl, fun _ h => absurd h List.not_mem_nil⟩)⟩)⟩) (hk3 v1 (v2 + (-8)) (((mo_taped mo) + 1), (mo_thrown mo), (mo_tf mo), (mo_t1 mo), (mo_t2 mo), (mo_t3 mo), (mo_fp mo)) (upd mt (Int32.toNatClampNeg (mo_taped mo)) (vp_nar .byte ((v1 >>> (v2 &&& 31))).toInt8.toInt32)) _ hE hF)
def F_X11_four (a1 : Int32) (mo : MO) (mt : A) : Out (MO × A) Unit := lp (fun _ _ _ _ => fno) (F_X11_four_3 ) FU a1 (24 : Int32) mo mt
set_option maxHeartbeats 1000000 in
set_option maxRecDepth 100000 in
theorem kF_X11_four (mo : MO) (mw : MW) (mr : MR) (ms : Nat) (mt : A) (mu : A) (dd : A) (wi : A) (hi : A) (gt : A) (sp : A) (ta : A) (li : A) (sr : A) (co : A) (hb : aH) (n : Nat)  (a1 : Int32) (hF : F_X11_four a1 mo mt ≠ fno) : AM mX11_four 1 [.ref 31, .int a1] (HM mo mw mr ms mt mu dd wi hi gt sp ta li sr co hb) n 0 0 0 0 (P_X11_four mw mr ms mu dd wi hi gt sp ta li sr co hb n (F_X11_four a1 mo mt)) (fun _ _ _ => False) := by
  generalize hE : F_X11_four a1 mo mt = res at hF ⊢
  refine aw_of (by decide +kernel) rfl (Nat.le_of_ble_eq_true rfl) ?_
  unfold F_X11_four at hE
  refine aw_bipush (v := 24) dX11_four_0 (by decide) ?_
  refine aw_istore_n (lv2 := [(2, _), (0, _), (1, _)]) dX11_four_2 (by decide) rfl ?_
  exact aw_lv _ (List.forall_mem_cons.mpr ⟨rfl, (List.forall_mem_cons.mpr ⟨rfl, (List.forall_mem_cons.mpr ⟨rfl, fun _ h => absurd h List.not_mem_nil⟩)⟩)⟩) (lp_ind (Q_X11_four_3 mw mr ms mu dd wi hi gt sp ta li sr co hb n) (fun _ _ _ _ res hq hF => (hF hq.symm).elim) (fun k hk => b_X11_four_3 mw mr ms mu dd wi hi gt sp ta li sr co hb n   k hk) FU a1 (24 : Int32) mo mt _ hE hF)
def P_X11_end (mw : MW) (mr : MR) (ms : Nat) (mt : A) (mu : A) (dd : A) (wi : A) (hi : A) (gt : A) (sp : A) (ta : A) (li : A) (sr : A) (co : A) (hb : aH) (n : Nat) (res : Out MO Int32) : Option Value → aH → Nat → Prop := fun r1 h2 n2 => ∃ (a : Int32) (s : MO), res = fok a s ∧ r1 = some (.int a) ∧ h2 = HM s mw mr ms mt mu dd wi hi gt sp ta li sr co hb ∧ n = n2
abbrev Q_X11_end_17 (mw : MW) (mr : MR) (ms : Nat) (mt : A) (mu : A) (dd : A) (wi : A) (hi : A) (gt : A) (sp : A) (ta : A) (li : A) (sr : A) (co : A) (hb : aH) (n : Nat) (k : MO → Out MO Int32) : Prop := ∀ (mo : MO) (res : Out MO Int32), k mo = res → res ≠ fno → AW (fun _ _ => True) mX11_end (rmD 1 0 0) 0 0 (P_X11_end mw mr ms mt mu dd wi hi gt sp ta li sr co hb n res) (fun _ _ _ => False) 0 0 17 [] [] (HM mo mw mr ms mt mu dd wi hi gt sp ta li sr co hb) n
def F_X11_end_17   (mo : MO) : Out MO Int32 := fok (0 : Int32) mo
set_option maxHeartbeats 1000000 in
set_option maxRecDepth 100000 in
theorem b_X11_end_17 (mw : MW) (mr : MR) (ms : Nat) (mt : A) (mu : A) (dd : A) (wi : A) (hi : A) (gt : A) (sp : A) (ta : A) (li : A) (sr : A) (co : A) (hb : aH) (n : Nat)   : Q_X11_end_17 mw mr ms mt mu dd wi hi gt sp ta li sr co hb n (F_X11_end_17 ) := by
  intro mo res hE hF
  unfold F_X11_end_17 at hE
  refine aw_iconst (v := 0) dX11_end_17 (by decide) ?_
  exact aw_zret dX11_end_18 rfl (narB (by decide)) (Nat.zero_le _) (Nat.zero_le _) (Nat.zero_le _) (Nat.zero_le _) ⟨_, _, hE.symm, rfl, rfl, rfl⟩
def F_X11_end (a1 : Int32) (mo : MO) : Out MO Int32 := if a1 < 0 then (F_X11_end_17  ((mo_taped mo), 0, (mo_tf mo), (mo_t1 mo), (mo_t2 mo), (mo_t3 mo), (mo_fp mo))) else (if a1 ≤ (mo_taped mo) then (fok (1 : Int32) (a1, 0, (mo_tf mo), (mo_t1 mo), (mo_t2 mo), (mo_t3 mo), (mo_fp mo))) else (F_X11_end_17  ((mo_taped mo), 0, (mo_tf mo), (mo_t1 mo), (mo_t2 mo), (mo_t3 mo), (mo_fp mo))))
set_option maxHeartbeats 1000000 in
set_option maxRecDepth 100000 in
theorem kF_X11_end (mo : MO) (mw : MW) (mr : MR) (ms : Nat) (mt : A) (mu : A) (dd : A) (wi : A) (hi : A) (gt : A) (sp : A) (ta : A) (li : A) (sr : A) (co : A) (hb : aH) (n : Nat)  (a1 : Int32) (hF : F_X11_end a1 mo ≠ fno) : AM mX11_end 1 [.ref 31, .int a1] (HM mo mw mr ms mt mu dd wi hi gt sp ta li sr co hb) n 0 0 0 0 (P_X11_end mw mr ms mt mu dd wi hi gt sp ta li sr co hb n (F_X11_end a1 mo)) (fun _ _ _ => False) := by
  generalize hE : F_X11_end a1 mo = res at hF ⊢
  refine aw_of (by decide +kernel) rfl (Nat.le_of_ble_eq_true rfl) ?_
  unfold F_X11_end at hE
  refine aw_aload_n dX11_end_0 rfl ?_
  refine aw_iconst (v := 0) dX11_end_1 (by decide) ?_
  refine aw_putf dX11_end_2 ptX11_61_10 at_mod (Nat.le_of_ble_eq_true rfl) ⟨rfl, rfl⟩ ?_
  refine aw_eqh (h2 := HM ((mo_taped mo), 0, (mo_tf mo), (mo_t1 mo), (mo_t2 mo), (mo_t3 mo), (mo_fp mo)) mw mr ms mt mu dd wi hi gt sp ta li sr co hb) up_mod ?_
  refine aw_iload_n dX11_end_5 rfl ?_
  refine aw_if_lt (tgt := 17) dX11_end_6 (by decide) (fun c6 => ?_) (fun c6 => ?_)
  · replace hE := fit hE c6
    exact aw_lv _ (fun _ h => absurd h List.not_mem_nil) (b_X11_end_17 mw mr ms mt mu dd wi hi gt sp ta li sr co hb n   ((mo_taped mo), 0, (mo_tf mo), (mo_t1 mo), (mo_t2 mo), (mo_t3 mo), (mo_fp mo)) _ hE hF)
  · replace hE := fif hE c6
    refine aw_iload_n dX11_end_9 rfl ?_
    refine aw_aload_n dX11_end_10 rfl ?_
    refine aw_getf (v := .int (mo_taped mo)) dX11_end_11 flX11_64_10 at_mod rfl ?_
    refine aw_icmp_le (tgt := 19) dX11_end_14 (by decide) (fun c14 => ?_) (fun c14 => ?_)
    · replace hE := fit hE c14
      refine aw_aload_n dX11_end_19 rfl ?_
      refine aw_iload_n dX11_end_20 rfl ?_
      refine aw_putf dX11_end_21 ptX11_64_10 at_mod (Nat.le_of_ble_eq_true rfl) ⟨rfl, rfl⟩ ?_
      refine aw_eqh (h2 := HM (a1, 0, (mo_tf mo), (mo_t1 mo), (mo_t2 mo), (mo_t3 mo), (mo_fp mo)) mw mr ms mt mu dd wi hi gt sp ta li sr co hb) up_mod ?_
      refine aw_iconst (v := 1) dX11_end_24 (by decide) ?_
      exact aw_zret dX11_end_25 rfl (narB (by decide)) (Nat.zero_le _) (Nat.zero_le _) (Nat.zero_le _) (Nat.zero_le _) ⟨_, _, hE.symm, rfl, rfl, rfl⟩
    · replace hE := fif hE c14
      exact aw_lv _ (fun _ h => absurd h List.not_mem_nil) (b_X11_end_17 mw mr ms mt mu dd wi hi gt sp ta li sr co hb n   ((mo_taped mo), 0, (mo_tf mo), (mo_t1 mo), (mo_t2 mo), (mo_t3 mo), (mo_fp mo)) _ hE hF)
def P_X11_again (mw : MW) (mr : MR) (ms : Nat) (mu : A) (dd : A) (wi : A) (hi : A) (gt : A) (sp : A) (ta : A) (li : A) (sr : A) (co : A) (hb : aH) (n : Nat) (res : Out (MO × A) Int32) : Option Value → aH → Nat → Prop := fun r1 h2 n2 => ∃ (a : Int32) (s : (MO × A)), res = fok a s ∧ r1 = some (.int a) ∧ h2 = HM s.1 mw mr ms s.2 mu dd wi hi gt sp ta li sr co hb ∧ n = n2
abbrev Q_X11_again_16 (mw : MW) (mr : MR) (ms : Nat) (mu : A) (dd : A) (wi : A) (hi : A) (gt : A) (sp : A) (ta : A) (li : A) (sr : A) (co : A) (hb : aH) (n : Nat) (k : Int32 → MO → A → Out (MO × A) Int32) : Prop := ∀ (v1 : Int32) (mo : MO) (mt : A) (res : Out (MO × A) Int32), k v1 mo mt = res → res ≠ fno → AW (fun _ _ => True) mX11_again (rmD 1 0 0) 0 0 (P_X11_again mw mr ms mu dd wi hi gt sp ta li sr co hb n res) (fun _ _ _ => False) 0 0 16 [(0, .ref 31), (1, .int v1)] [] (HM mo mw mr ms mt mu dd wi hi gt sp ta li sr co hb) n
def F_X11_again_16 (mw : MW) (mu : A) (k16 : Int32 → MO → A → Out (MO × A) Int32) (v1 : Int32) (mo : MO) (mt : A) : Out (MO × A) Int32 := if (mw_om mw) ≤ v1 then (fok ((mw_om mw) : Int32) (((mw_om mw), (mo_thrown mo), (mo_tf mo), (mo_t1 mo), (mo_t2 mo), (mo_t3 mo), (mo_fp mo)), mt)) else (if inb v1 65536 then (if inb v1 65536 then (k16 (v1 + 1) mo (upd mt (Int32.toNatClampNeg v1) (vp_nar .byte (mu (Int32.toNatClampNeg v1))))) else fno) else fno)
set_option maxHeartbeats 1000000 in
set_option maxRecDepth 100000 in
theorem b_X11_again_16 (mw : MW) (mr : MR) (ms : Nat) (mu : A) (dd : A) (wi : A) (hi : A) (gt : A) (sp : A) (ta : A) (li : A) (sr : A) (co : A) (hb : aH) (n : Nat)  (k16 : Int32 → MO → A → Out (MO × A) Int32) (hk16 : Q_X11_again_16 mw mr ms mu dd wi hi gt sp ta li sr co hb n k16) : Q_X11_again_16 mw mr ms mu dd wi hi gt sp ta li sr co hb n (F_X11_again_16 mw mu k16) := by
  intro v1 mo mt res hE hF
  unfold F_X11_again_16 at hE
  refine aw_iload_n dX11_again_16 rfl ?_
  refine aw_aload_n dX11_again_17 rfl ?_
  refine aw_getf (v := .int (mw_om mw)) dX11_again_18 flX11_75_10 at_mod rfl ?_
  refine aw_icmp_ge (tgt := 42) dX11_again_21 (by decide) (fun c21 => ?_) (fun c21 => ?_)
  · replace hE := fit hE c21
    refine aw_aload_n dX11_again_42 rfl ?_
    refine aw_aload_n dX11_again_43 rfl ?_
    refine aw_getf (v := .int (mw_om mw)) dX11_again_44 flX11_75_10 at_mod rfl ?_
    refine aw_putf dX11_again_47 ptX11_64_10 at_mod (Nat.le_of_ble_eq_true rfl) ⟨rfl, rfl⟩ ?_
    refine aw_eqh (h2 := HM ((mw_om mw), (mo_thrown mo), (mo_tf mo), (mo_t1 mo), (mo_t2 mo), (mo_t3 mo), (mo_fp mo)) mw mr ms mt mu dd wi hi gt sp ta li sr co hb) up_mod ?_
    refine aw_aload_n dX11_again_50 rfl ?_
    refine aw_getf (v := .int (mw_om mw)) dX11_again_51 flX11_64_10 at_mod rfl ?_
    exact aw_iret dX11_again_54 rfl (Nat.zero_le _) (Nat.zero_le _) (Nat.zero_le _) (Nat.zero_le _) ⟨_, _, hE.symm, rfl, rfl, rfl⟩
  · replace hE := fif hE c21
    refine aw_aload_n dX11_again_24 rfl ?_
    refine aw_getf (v := .ref 32) dX11_again_25 flX11_10_10 at_mod rfl ?_
    refine aw_iload_n dX11_again_28 rfl ?_
    refine aw_aload_n dX11_again_29 rfl ?_
    refine aw_getf (v := .ref 33) dX11_again_30 flX11_14_10 at_mod rfl ?_
    refine aw_iload_n dX11_again_33 rfl ?_
    obtain ⟨g34, hE⟩ := fgd hE hF
    refine aw_bald (f := mu) dX11_again_34 at_mout (vp_in_iff.mpr g34) ?_
    obtain ⟨g35, hE⟩ := fgd hE hF
    refine aw_bast (f := mt) dX11_again_35 at_mtape (vp_in_iff.mpr g35) ?_
    refine aw_eqh (h2 := HM mo mw mr ms (upd mt (Int32.toNatClampNeg v1) (vp_nar .byte (mu (Int32.toNatClampNeg v1)))) mu dd wi hi gt sp ta li sr co hb) up_mtape ?_
    refine aw_iinc (v := (v1 + 1)) (lv2 := [(1, _), (0, _)]) dX11_again_36 rfl (incE (by decide)) (by decide) rfl ?_
    refine aw_goto (tgt := 16) dX11_again_39 (by decide) ?_
    exact aw_lv _ (List.forall_mem_cons.mpr ⟨rfl, (List.forall_mem_cons.mpr ⟨rfl, fun _ h => absurd h List.not_mem_nil⟩)⟩) (hk16 (v1 + 1) mo (upd mt (Int32.toNatClampNeg v1) (vp_nar .byte (mu (Int32.toNatClampNeg v1)))) _ hE hF)
def F_X11_again (mo : MO) (mw : MW) (mt : A) (mu : A) : Out (MO × A) Int32 := if (mw_ho mw) = 0 then (fok ((-1) : Int32) (((mo_taped mo), 0, (mo_tf mo), (mo_t1 mo), (mo_t2 mo), (mo_t3 mo), (mo_fp mo)), mt)) else (lp (fun _ _ _ => fno) (F_X11_again_16 mw mu) FU (0 : Int32) ((mo_taped mo), 0, (mo_tf mo), (mo_t1 mo), (mo_t2 mo), (mo_t3 mo), (mo_fp mo)) mt)
set_option maxHeartbeats 1000000 in
set_option maxRecDepth 100000 in
theorem kF_X11_again (mo : MO) (mw : MW) (mr : MR) (ms : Nat) (mt : A) (mu : A) (dd : A) (wi : A) (hi : A) (gt : A) (sp : A) (ta : A) (li : A) (sr : A) (co : A) (hb : aH) (n : Nat)   (hF : F_X11_again mo mw mt mu ≠ fno) : AM mX11_again 1 [.ref 31] (HM mo mw mr ms mt mu dd wi hi gt sp ta li sr co hb) n 0 0 0 0 (P_X11_again mw mr ms mu dd wi hi gt sp ta li sr co hb n (F_X11_again mo mw mt mu)) (fun _ _ _ => False) := by
  generalize hE : F_X11_again mo mw mt mu = res at hF ⊢
  refine aw_of (by decide +kernel) rfl (Nat.le_of_ble_eq_true rfl) ?_
  unfold F_X11_again at hE
  refine aw_aload_n dX11_again_0 rfl ?_
  refine aw_iconst (v := 0) dX11_again_1 (by decide) ?_
  refine aw_putf dX11_again_2 ptX11_61_10 at_mod (Nat.le_of_ble_eq_true rfl) ⟨rfl, rfl⟩ ?_
  refine aw_eqh (h2 := HM ((mo_taped mo), 0, (mo_tf mo), (mo_t1 mo), (mo_t2 mo), (mo_t3 mo), (mo_fp mo)) mw mr ms mt mu dd wi hi gt sp ta li sr co hb) up_mod ?_
  refine aw_aload_n dX11_again_5 rfl ?_
  refine aw_getf (v := .int (mw_ho mw)) dX11_again_6 flX11_71_10 at_mod rfl ?_
  refine aw_if_ne (tgt := 14) dX11_again_9 (by decide) (fun c9 => ?_) (fun c9 => ?_)
  · replace hE := fif hE c9
    refine aw_iconst (v := 0) dX11_again_14 (by decide) ?_
    refine aw_istore_n (lv2 := [(1, _), (0, _)]) dX11_again_15 (by decide) rfl ?_
    exact aw_lv _ (List.forall_mem_cons.mpr ⟨rfl, (List.forall_mem_cons.mpr ⟨rfl, fun _ h => absurd h List.not_mem_nil⟩)⟩) (lp_ind (Q_X11_again_16 mw mr ms mu dd wi hi gt sp ta li sr co hb n) (fun _ _ _ res hq hF => (hF hq.symm).elim) (fun k hk => b_X11_again_16 mw mr ms mu dd wi hi gt sp ta li sr co hb n   k hk) FU (0 : Int32) ((mo_taped mo), 0, (mo_tf mo), (mo_t1 mo), (mo_t2 mo), (mo_t3 mo), (mo_fp mo)) mt _ hE hF)
  · replace hE := fit hE c9
    refine aw_iconst (v := (-1)) dX11_again_12 (by decide) ?_
    exact aw_iret dX11_again_13 rfl (Nat.zero_le _) (Nat.zero_le _) (Nat.zero_le _) (Nat.zero_le _) ⟨_, _, hE.symm, rfl, rfl, rfl⟩
def F_X11_isShelf (a0 : Int32) : Int32 := if a0 < 0 then ((0 : Int32)) else (if 4 ≤ a0 then ((0 : Int32)) else ((1 : Int32)))
set_option maxRecDepth 100000 in
theorem kF_X11_isShelf (h : aH) (n : Nat) (a0 : Int32) : AM mX11_isShelf 1 [.int a0] h n 0 0 0 0 (isV (.int (F_X11_isShelf a0)) h n) noX := by
  generalize hE : F_X11_isShelf a0 = res
  refine aw_of (by decide +kernel) rfl (Nat.le_of_ble_eq_true rfl) ?_
  unfold F_X11_isShelf at hE
  refine aw_iload_n dX11_isShelf_0 rfl ?_
  refine aw_if_lt (tgt := 13) dX11_isShelf_1 (by decide) (fun c1 => ?_) (fun c1 => ?_)
  · replace hE := fit hE c1
    refine aw_iconst (v := 0) dX11_isShelf_13 (by decide) ?_
    exact aw_zret dX11_isShelf_14 rfl (narB (by decide)) (Nat.zero_le _) (Nat.zero_le _) (Nat.zero_le _) (Nat.zero_le _) ⟨by subst hE; rfl, rfl, rfl⟩
  · replace hE := fif hE c1
    refine aw_iload_n dX11_isShelf_4 rfl ?_
    refine aw_iconst (v := 4) dX11_isShelf_5 (by decide) ?_
    refine aw_icmp_ge (tgt := 13) dX11_isShelf_6 (by decide) (fun c6 => ?_) (fun c6 => ?_)
    · replace hE := fit hE c6
      refine aw_iconst (v := 0) dX11_isShelf_13 (by decide) ?_
      exact aw_zret dX11_isShelf_14 rfl (narB (by decide)) (Nat.zero_le _) (Nat.zero_le _) (Nat.zero_le _) (Nat.zero_le _) ⟨by subst hE; rfl, rfl, rfl⟩
    · replace hE := fif hE c6
      refine aw_iconst (v := 1) dX11_isShelf_9 (by decide) ?_
      refine aw_goto (tgt := 14) dX11_isShelf_10 (by decide) ?_
      exact aw_zret dX11_isShelf_14 rfl (narB (by decide)) (Nat.zero_le _) (Nat.zero_le _) (Nat.zero_le _) (Nat.zero_le _) ⟨by subst hE; rfl, rfl, rfl⟩
def P_X11_wrong (mo : MO) (mw : MW) (ms : Nat) (mt : A) (mu : A) (dd : A) (wi : A) (hi : A) (gt : A) (sp : A) (ta : A) (li : A) (sr : A) (co : A) (hb : aH) (n : Nat) (res : Out MR Int32) : Option Value → aH → Nat → Prop := fun r1 h2 n2 => ∃ (a : Int32) (s : MR), res = fok a s ∧ r1 = some (.int a) ∧ h2 = HM mo mw s ms mt mu dd wi hi gt sp ta li sr co hb ∧ n = n2
def F_X11_wrong (a1 : Int32) (a2 : Int32) (mr : MR) : Out MR Int32 := fok (0 : Int32) ((mr_size mr), (mr_pos mr), a1, a2, (mr_gw mr), (mr_gh mr), (mr_one mr), (mr_two mr), (mr_three mr))
set_option maxHeartbeats 1000000 in
set_option maxRecDepth 100000 in
theorem kF_X11_wrong (mo : MO) (mw : MW) (mr : MR) (ms : Nat) (mt : A) (mu : A) (dd : A) (wi : A) (hi : A) (gt : A) (sp : A) (ta : A) (li : A) (sr : A) (co : A) (hb : aH) (n : Nat)  (a1 : Int32) (a2 : Int32) (hF : F_X11_wrong a1 a2 mr ≠ fno) : AM mX11_wrong 1 [.ref 31, .int a1, .int a2] (HM mo mw mr ms mt mu dd wi hi gt sp ta li sr co hb) n 0 0 0 0 (P_X11_wrong mo mw ms mt mu dd wi hi gt sp ta li sr co hb n (F_X11_wrong a1 a2 mr)) (fun _ _ _ => False) := by
  generalize hE : F_X11_wrong a1 a2 mr = res at hF ⊢
  refine aw_of (by decide +kernel) rfl (Nat.le_of_ble_eq_true rfl) ?_
  unfold F_X11_wrong at hE
  refine aw_aload_n dX11_wrong_0 rfl ?_
  refine aw_iload_n dX11_wrong_1 rfl ?_
  refine aw_putf dX11_wrong_2 ptX11_78_10 at_mod (Nat.le_of_ble_eq_true rfl) ⟨rfl, rfl⟩ ?_
  refine aw_eqh (h2 := HM mo mw ((mr_size mr), (mr_pos mr), a1, (mr_whr mr), (mr_gw mr), (mr_gh mr), (mr_one mr), (mr_two mr), (mr_three mr)) ms mt mu dd wi hi gt sp ta li sr co hb) up_mod ?_
  refine aw_aload_n dX11_wrong_5 rfl ?_
  refine aw_iload_n dX11_wrong_6 rfl ?_
  refine aw_putf dX11_wrong_7 ptX11_81_10 at_mod (Nat.le_of_ble_eq_true rfl) ⟨rfl, rfl⟩ ?_
  refine aw_eqh (h2 := HM mo mw ((mr_size mr), (mr_pos mr), a1, a2, (mr_gw mr), (mr_gh mr), (mr_one mr), (mr_two mr), (mr_three mr)) ms mt mu dd wi hi gt sp ta li sr co hb) up_mod ?_
  refine aw_iconst (v := 0) dX11_wrong_10 (by decide) ?_
  exact aw_zret dX11_wrong_11 rfl (narB (by decide)) (Nat.zero_le _) (Nat.zero_le _) (Nat.zero_le _) (Nat.zero_le _) ⟨_, _, hE.symm, rfl, rfl, rfl⟩
def P_X11_b (mo : MO) (mw : MW) (mr : MR) (ms : Nat) (mt : A) (mu : A) (dd : A) (wi : A) (hi : A) (gt : A) (sp : A) (ta : A) (li : A) (sr : A) (co : A) (hb : aH) (n : Nat) (res : Out Unit Int32) : Option Value → aH → Nat → Prop := fun r1 h2 n2 => ∃ (a : Int32) (s : Unit), res = fok a s ∧ r1 = some (.int a) ∧ h2 = HM mo mw mr ms mt mu dd wi hi gt sp ta li sr co hb ∧ n = n2
def F_X11_b (a1 : Int32) (sb : A) : Out Unit Int32 := if inb a1 65536 then (fok (((sb (Int32.toNatClampNeg a1)) &&& 255) : Int32) ()) else fno
set_option maxHeartbeats 1000000 in
set_option maxRecDepth 100000 in
theorem kF_X11_b (mo : MO) (mw : MW) (mr : MR) (ms : Nat) (mt : A) (mu : A) (dd : A) (wi : A) (hi : A) (gt : A) (sp : A) (ta : A) (li : A) (sr : A) (co : A) (hb : aH) (n : Nat) (hms : isMS ms) (a1 : Int32) (hF : F_X11_b a1 (srcB ms mt mu) ≠ fno) : AM mX11_b 1 [.ref 31, .int a1] (HM mo mw mr ms mt mu dd wi hi gt sp ta li sr co hb) n 0 0 0 0 (P_X11_b mo mw mr ms mt mu dd wi hi gt sp ta li sr co hb n (F_X11_b a1 (srcB ms mt mu))) (fun _ _ _ => False) := by
  generalize hE : F_X11_b a1 (srcB ms mt mu) = res at hF ⊢
  refine aw_of (by decide +kernel) rfl (Nat.le_of_ble_eq_true rfl) ?_
  unfold F_X11_b at hE
  refine aw_aload_n dX11_b_0 rfl ?_
  refine aw_getf (v := .ref ms) dX11_b_1 flX11_94_10 at_mod (congrArg some (rfv_ms hms)) ?_
  refine aw_iload_n dX11_b_4 rfl ?_
  obtain ⟨g5, hE⟩ := fgd hE hF
  refine aw_bald (f := (srcB ms mt mu)) dX11_b_5 (at_msrc hms) (vp_in_iff.mpr g5) ?_
  refine aw_sipush (v := 255) dX11_b_6 (by decide) ?_
  refine aw_iand dX11_b_9 ?_
  exact aw_iret dX11_b_10 rfl (Nat.zero_le _) (Nat.zero_le _) (Nat.zero_le _) (Nat.zero_le _) ⟨_, _, hE.symm, rfl, rfl, rfl⟩
def P_X11_top (mo : MO) (mw : MW) (mr : MR) (ms : Nat) (mt : A) (mu : A) (dd : A) (wi : A) (hi : A) (gt : A) (sp : A) (ta : A) (li : A) (sr : A) (co : A) (hb : aH) (n : Nat) (res : Out Unit Int64) : Option Value → aH → Nat → Prop := fun r1 h2 n2 => ∃ (a : Int64) (s : Unit), res = fok a s ∧ r1 = some (.long a) ∧ h2 = HM mo mw mr ms mt mu dd wi hi gt sp ta li sr co hb ∧ n = n2
abbrev Q_X11_top_5 (mo : MO) (mw : MW) (mr : MR) (ms : Nat) (mt : A) (mu : A) (dd : A) (wi : A) (hi : A) (gt : A) (sp : A) (ta : A) (li : A) (sr : A) (co : A) (hb : aH) (n : Nat) (k : Int32 → Int32 → Int64 → Int32 → Out Unit Int64) : Prop := ∀ (v1 : Int32) (v2 : Int32) (v3 : Int64) (v5 : Int32) (res : Out Unit Int64), k v1 v2 v3 v5 = res → res ≠ fno → AW (fun _ _ => True) mX11_top (rmD 2 0 0) 0 0 (P_X11_top mo mw mr ms mt mu dd wi hi gt sp ta li sr co hb n res) (fun _ _ _ => False) 0 0 5 [(0, .ref 31), (1, .int v1), (2, .int v2), (3, .long v3), (5, .int v5)] [] (HM mo mw mr ms mt mu dd wi hi gt sp ta li sr co hb) n
def F_X11_top_5 (sb : A) (k5 : Int32 → Int32 → Int64 → Int32 → Out Unit Int64) (v1 : Int32) (v2 : Int32) (v3 : Int64) (v5 : Int32) : Out Unit Int64 := if v2 ≤ v5 then (fok (v3 : Int64) ()) else (fon (F_X11_b (v1 + v5) sb) (fun z21 s21 => k5 v1 v2 ((256 * v3) + (z21).toInt64) (v5 + 1)) (fun _ _ => fno))
set_option maxHeartbeats 1000000 in
set_option maxRecDepth 100000 in
theorem b_X11_top_5 (mo : MO) (mw : MW) (mr : MR) (ms : Nat) (mt : A) (mu : A) (dd : A) (wi : A) (hi : A) (gt : A) (sp : A) (ta : A) (li : A) (sr : A) (co : A) (hb : aH) (n : Nat) (hms : isMS ms) (k5 : Int32 → Int32 → Int64 → Int32 → Out Unit Int64) (hk5 : Q_X11_top_5 mo mw mr ms mt mu dd wi hi gt sp ta li sr co hb n k5) : Q_X11_top_5 mo mw mr ms mt mu dd wi hi gt sp ta li sr co hb n (F_X11_top_5 (srcB ms mt mu) k5) := by
  intro v1 v2 v3 v5 res hE hF
  unfold F_X11_top_5 at hE
  refine aw_iload dX11_top_5 rfl ?_
  refine aw_iload_n dX11_top_7 rfl ?_
  refine aw_icmp_ge (tgt := 33) dX11_top_8 (by decide) (fun c8 => ?_) (fun c8 => ?_)
  · replace hE := fit hE c8
    refine aw_lload_n dX11_top_33 rfl ?_
    exact aw_lret dX11_top_34 rfl (Nat.zero_le _) (Nat.zero_le _) (Nat.zero_le _) (Nat.zero_le _) ⟨_, _, hE.symm, rfl, rfl, rfl⟩
  · replace hE := fif hE c8
    refine aw_ldc2 dX11_top_11 kcX11_97 ?_
    refine aw_lload_n dX11_top_14 rfl ?_
    refine aw_lmul dX11_top_15 ?_
    refine aw_aload_n dX11_top_16 rfl ?_
    refine aw_iload_n dX11_top_17 rfl ?_
    refine aw_iload dX11_top_18 rfl ?_
    refine aw_iadd dX11_top_20 ?_
    refine aw_callV dX11_top_21 at_mod cvX11_99 rfl (kF_X11_b mo mw mr ms mt mu dd wi hi gt sp ta li sr co hb _ hms (v1 + v5) (fon_ne hE hF)) rfl (Nat.le_of_ble_eq_true rfl) (by decide) (by decide) (by decide) (by decide) (fun _ _ _ hf => False.elim hf) (fun r21 h21 n21 hp21 => ?_)
    obtain ⟨z21, s21, e21, rfl, rfl, rfl⟩ := hp21
    replace hE := fon_ok e21 hE
    refine aw_i2l dX11_top_24 ?_
    refine aw_ladd dX11_top_25 ?_
    refine aw_lstore_n (lv2 := [(3, _), (0, _), (1, _), (2, _), (5, _)]) dX11_top_26 (by decide) rfl ?_
    refine aw_iinc (v := (v5 + 1)) (lv2 := [(5, _), (3, _), (0, _), (1, _), (2, _)]) dX11_top_27 rfl (incE (by decide)) (by decide) rfl ?_
    refine aw_goto (tgt := 5) dX11_top_30 (by decide) ?_
    exact aw_lv _ (List.forall_mem_cons.mpr ⟨rfl, (List.forall_mem_cons.mpr ⟨rfl, (List.forall_mem_cons.mpr ⟨rfl, (List.forall_mem_cons.mpr ⟨rfl, (List.forall_mem_cons.mpr ⟨rfl, fun _ h => absurd h List.not_mem_nil⟩)⟩)⟩)⟩)⟩) (hk5 v1 v2 ((256 * v3) + (z21).toInt64) (v5 + 1) _ hE hF)
def F_X11_top (a1 : Int32) (a2 : Int32) (sb : A) : Out Unit Int64 := lp (fun _ _ _ _ => fno) (F_X11_top_5 sb) FU a1 a2 (0 : Int64) (0 : Int32)
set_option maxHeartbeats 1000000 in
set_option maxRecDepth 100000 in
theorem kF_X11_top (mo : MO) (mw : MW) (mr : MR) (ms : Nat) (mt : A) (mu : A) (dd : A) (wi : A) (hi : A) (gt : A) (sp : A) (ta : A) (li : A) (sr : A) (co : A) (hb : aH) (n : Nat) (hms : isMS ms) (a1 : Int32) (a2 : Int32) (hF : F_X11_top a1 a2 (srcB ms mt mu) ≠ fno) : AM mX11_top 2 [.ref 31, .int a1, .int a2] (HM mo mw mr ms mt mu dd wi hi gt sp ta li sr co hb) n 0 0 0 0 (P_X11_top mo mw mr ms mt mu dd wi hi gt sp ta li sr co hb n (F_X11_top a1 a2 (srcB ms mt mu))) (fun _ _ _ => False) := by
  generalize hE : F_X11_top a1 a2 (srcB ms mt mu) = res at hF ⊢
  refine aw_of (by decide +kernel) rfl (Nat.le_of_ble_eq_true rfl) ?_
  unfold F_X11_top at hE
  refine aw_lconst (v := 0) dX11_top_0 (by decide) ?_
  refine aw_lstore_n (lv2 := [(3, _), (0, _), (1, _), (2, _)]) dX11_top_1 (by decide) rfl ?_
  refine aw_iconst (v := 0) dX11_top_2 (by decide) ?_
  refine aw_istore (lv2 := [(5, _), (3, _), (0, _), (1, _), (2, _)]) dX11_top_3 (by decide) rfl ?_
  exact aw_lv _ (List.forall_mem_cons.mpr ⟨rfl, (List.forall_mem_cons.mpr ⟨rfl, (List.forall_mem_cons.mpr ⟨rfl, (List.forall_mem_cons.mpr ⟨rfl, (List.forall_mem_cons.mpr ⟨rfl, fun _ h => absurd h List.not_mem_nil⟩)⟩)⟩)⟩)⟩) (lp_ind (Q_X11_top_5 mo mw mr ms mt mu dd wi hi gt sp ta li sr co hb n) (fun _ _ _ _ res hq hF => (hF hq.symm).elim) (fun k hk => b_X11_top_5 mo mw mr ms mt mu dd wi hi gt sp ta li sr co hb n hms  k hk) FU a1 a2 (0 : Int64) (0 : Int32) _ hE hF)
def P_X11_fits (mo : MO) (mw : MW) (ms : Nat) (mt : A) (mu : A) (dd : A) (wi : A) (hi : A) (gt : A) (sp : A) (ta : A) (li : A) (sr : A) (co : A) (hb : aH) (n : Nat) (res : Out MR Int32) : Option Value → aH → Nat → Prop := fun r1 h2 n2 => ∃ (a : Int32) (s : MR), res = fok a s ∧ r1 = some (.int a) ∧ h2 = HM mo mw s ms mt mu dd wi hi gt sp ta li sr co hb ∧ n = n2
abbrev Q_X11_fits_26 (mo : MO) (mw : MW) (ms : Nat) (mt : A) (mu : A) (dd : A) (wi : A) (hi : A) (gt : A) (sp : A) (ta : A) (li : A) (sr : A) (co : A) (hb : aH) (n : Nat) (k : Int32 → MR → Out MR Int32) : Prop := ∀ (v5 : Int32) (mr : MR) (res : Out MR Int32), k v5 mr = res → res ≠ fno → AW (fun _ _ => True) mX11_fits (rmD 2 0 0) 0 0 (P_X11_fits mo mw ms mt mu dd wi hi gt sp ta li sr co hb n res) (fun _ _ _ => False) 0 0 26 [(0, .ref 31), (5, .int v5)] [] (HM mo mw mr ms mt mu dd wi hi gt sp ta li sr co hb) n
def F_X11_fits_26   (v5 : Int32) (mr : MR) : Out MR Int32 := fon (F_X11_wrong 3 v5 mr) (fun z30 s30 => if isB z30 then (fok (z30 : Int32) s30) else fno) (fun _ _ => fno)
set_option maxHeartbeats 1000000 in
set_option maxRecDepth 100000 in
theorem b_X11_fits_26 (mo : MO) (mw : MW) (ms : Nat) (mt : A) (mu : A) (dd : A) (wi : A) (hi : A) (gt : A) (sp : A) (ta : A) (li : A) (sr : A) (co : A) (hb : aH) (n : Nat)   : Q_X11_fits_26 mo mw ms mt mu dd wi hi gt sp ta li sr co hb n (F_X11_fits_26 ) := by
  intro v5 mr res hE hF
  unfold F_X11_fits_26 at hE
  refine aw_aload_n dX11_fits_26 rfl ?_
  refine aw_iconst (v := 3) dX11_fits_27 (by decide) ?_
  refine aw_iload dX11_fits_28 rfl ?_
  refine aw_callV dX11_fits_30 at_mod cvX11_90 rfl (kF_X11_wrong mo mw mr ms mt mu dd wi hi gt sp ta li sr co hb _  3 v5 (fon_ne hE hF)) rfl (Nat.le_of_ble_eq_true rfl) (by decide) (by decide) (by decide) (by decide) (fun _ _ _ hf => False.elim hf) (fun r30 h30 n30 hp30 => ?_)
  obtain ⟨z30, s30, e30, rfl, rfl, rfl⟩ := hp30
  replace hE := fon_ok e30 hE
  obtain ⟨g33, hE⟩ := fgd hE hF
  exact aw_zret dX11_fits_33 rfl (narB g33) (Nat.zero_le _) (Nat.zero_le _) (Nat.zero_le _) (Nat.zero_le _) ⟨_, _, hE.symm, rfl, rfl, rfl⟩
def F_X11_fits (a1 : Int64) (a3 : Int64) (a5 : Int32) (mr : MR) : Out MR Int32 := if 0 < (lg_cmp a1 4096) then (F_X11_fits_26  a5 mr) else (if 0 < (lg_cmp a3 4096) then (F_X11_fits_26  a5 mr) else (if (lg_cmp (a1 * a3) 4096) ≤ 0 then (fok (1 : Int32) ((mr_size mr), (mr_pos mr), (mr_kind mr), (mr_whr mr), (a1).toInt32, (a3).toInt32, (mr_one mr), (mr_two mr), (mr_three mr))) else (F_X11_fits_26  a5 mr)))
set_option maxHeartbeats 1000000 in
set_option maxRecDepth 100000 in
theorem kF_X11_fits (mo : MO) (mw : MW) (mr : MR) (ms : Nat) (mt : A) (mu : A) (dd : A) (wi : A) (hi : A) (gt : A) (sp : A) (ta : A) (li : A) (sr : A) (co : A) (hb : aH) (n : Nat)  (a1 : Int64) (a3 : Int64) (a5 : Int32) (hF : F_X11_fits a1 a3 a5 mr ≠ fno) : AM mX11_fits 2 [.ref 31, .long a1, .long a3, .int a5] (HM mo mw mr ms mt mu dd wi hi gt sp ta li sr co hb) n 0 0 0 0 (P_X11_fits mo mw ms mt mu dd wi hi gt sp ta li sr co hb n (F_X11_fits a1 a3 a5 mr)) (fun _ _ _ => False) := by
  generalize hE : F_X11_fits a1 a3 a5 mr = res at hF ⊢
  refine aw_of (by decide +kernel) rfl (Nat.le_of_ble_eq_true rfl) ?_
  unfold F_X11_fits at hE
  refine aw_lload_n dX11_fits_0 rfl ?_
  refine aw_ldc2 dX11_fits_1 kcX11_107 ?_
  refine aw_lcmp dX11_fits_4 ?_
  refine aw_if_gt (tgt := 26) dX11_fits_5 (by decide) (fun c5 => ?_) (fun c5 => ?_)
  · replace hE := fit hE c5
    exact aw_lv _ (List.forall_mem_cons.mpr ⟨rfl, (List.forall_mem_cons.mpr ⟨rfl, fun _ h => absurd h List.not_mem_nil⟩)⟩) (b_X11_fits_26 mo mw ms mt mu dd wi hi gt sp ta li sr co hb n   a5 mr _ hE hF)
  · replace hE := fif hE c5
    refine aw_lload_n dX11_fits_8 rfl ?_
    refine aw_ldc2 dX11_fits_9 kcX11_107 ?_
    refine aw_lcmp dX11_fits_12 ?_
    refine aw_if_gt (tgt := 26) dX11_fits_13 (by decide) (fun c13 => ?_) (fun c13 => ?_)
    · replace hE := fit hE c13
      exact aw_lv _ (List.forall_mem_cons.mpr ⟨rfl, (List.forall_mem_cons.mpr ⟨rfl, fun _ h => absurd h List.not_mem_nil⟩)⟩) (b_X11_fits_26 mo mw ms mt mu dd wi hi gt sp ta li sr co hb n   a5 mr _ hE hF)
    · replace hE := fif hE c13
      refine aw_lload_n dX11_fits_16 rfl ?_
      refine aw_lload_n dX11_fits_17 rfl ?_
      refine aw_lmul dX11_fits_18 ?_
      refine aw_ldc2 dX11_fits_19 kcX11_107 ?_
      refine aw_lcmp dX11_fits_22 ?_
      refine aw_if_le (tgt := 34) dX11_fits_23 (by decide) (fun c23 => ?_) (fun c23 => ?_)
      · replace hE := fit hE c23
        refine aw_aload_n dX11_fits_34 rfl ?_
        refine aw_lload_n dX11_fits_35 rfl ?_
        refine aw_l2i dX11_fits_36 ?_
        refine aw_putf dX11_fits_37 ptX11_109_10 at_mod (Nat.le_of_ble_eq_true rfl) ⟨rfl, rfl⟩ ?_
        refine aw_eqh (h2 := HM mo mw ((mr_size mr), (mr_pos mr), (mr_kind mr), (mr_whr mr), (a1).toInt32, (mr_gh mr), (mr_one mr), (mr_two mr), (mr_three mr)) ms mt mu dd wi hi gt sp ta li sr co hb) up_mod ?_
        refine aw_aload_n dX11_fits_40 rfl ?_
        refine aw_lload_n dX11_fits_41 rfl ?_
        refine aw_l2i dX11_fits_42 ?_
        refine aw_putf dX11_fits_43 ptX11_112_10 at_mod (Nat.le_of_ble_eq_true rfl) ⟨rfl, rfl⟩ ?_
        refine aw_eqh (h2 := HM mo mw ((mr_size mr), (mr_pos mr), (mr_kind mr), (mr_whr mr), (a1).toInt32, (a3).toInt32, (mr_one mr), (mr_two mr), (mr_three mr)) ms mt mu dd wi hi gt sp ta li sr co hb) up_mod ?_
        refine aw_iconst (v := 1) dX11_fits_46 (by decide) ?_
        exact aw_zret dX11_fits_47 rfl (narB (by decide)) (Nat.zero_le _) (Nat.zero_le _) (Nat.zero_le _) (Nat.zero_le _) ⟨_, _, hE.symm, rfl, rfl, rfl⟩
      · replace hE := fif hE c23
        exact aw_lv _ (List.forall_mem_cons.mpr ⟨rfl, (List.forall_mem_cons.mpr ⟨rfl, fun _ h => absurd h List.not_mem_nil⟩)⟩) (b_X11_fits_26 mo mw ms mt mu dd wi hi gt sp ta li sr co hb n   a5 mr _ hE hF)
def F_X11_mix (a0 : Int32) (a1 : Int32) (a2 : Int32) (a3 : Int32) : Int32 := (((((a0 <<< ((24 : Int32) &&& 31)) ||| (a1 <<< ((16 : Int32) &&& 31))) ||| (a2 <<< ((8 : Int32) &&& 31))) ||| a3) : Int32)
set_option maxRecDepth 100000 in
theorem kF_X11_mix (h : aH) (n : Nat) (a0 : Int32) (a1 : Int32) (a2 : Int32) (a3 : Int32) : AM mX11_mix 1 [.int a0, .int a1, .int a2, .int a3] h n 0 0 0 0 (isV (.int (F_X11_mix a0 a1 a2 a3)) h n) noX := by
  generalize hE : F_X11_mix a0 a1 a2 a3 = res
  refine aw_of (by decide +kernel) rfl (Nat.le_of_ble_eq_true rfl) ?_
  unfold F_X11_mix at hE
  refine aw_iload_n dX11_mix_0 rfl ?_
  refine aw_bipush (v := 24) dX11_mix_1 (by decide) ?_
  refine aw_ishl dX11_mix_3 ?_
  refine aw_iload_n dX11_mix_4 rfl ?_
  refine aw_bipush (v := 16) dX11_mix_5 (by decide) ?_
  refine aw_ishl dX11_mix_7 ?_
  refine aw_ior dX11_mix_8 ?_
  refine aw_iload_n dX11_mix_9 rfl ?_
  refine aw_bipush (v := 8) dX11_mix_10 (by decide) ?_
  refine aw_ishl dX11_mix_12 ?_
  refine aw_ior dX11_mix_13 ?_
  refine aw_iload_n dX11_mix_14 rfl ?_
  refine aw_ior dX11_mix_15 ?_
  exact aw_iret dX11_mix_16 rfl (Nat.zero_le _) (Nat.zero_le _) (Nat.zero_le _) (Nat.zero_le _) ⟨by subst hE; rfl, rfl, rfl⟩
def F_X11_more (a0 : Int32) (a1 : Int32) (a2 : Int32) (a3 : Int32) : Int32 := ((F_X11_mix (((us a0 24) + a1) &&& 255) ((((a0 >>> ((16 : Int32) &&& 31)) &&& 255) + a2) &&& 255) ((((a0 >>> ((8 : Int32) &&& 31)) &&& 255) + a3) &&& 255) (a0 &&& 255)) : Int32)
set_option maxRecDepth 100000 in
theorem kF_X11_more (h : aH) (n : Nat) (a0 : Int32) (a1 : Int32) (a2 : Int32) (a3 : Int32) : AM mX11_more 2 [.int a0, .int a1, .int a2, .int a3] h n 0 0 0 0 (isV (.int (F_X11_more a0 a1 a2 a3)) h n) noX := by
  generalize hE : F_X11_more a0 a1 a2 a3 = res
  refine aw_of (by decide +kernel) rfl (Nat.le_of_ble_eq_true rfl) ?_
  unfold F_X11_more at hE
  refine aw_iload_n dX11_more_0 rfl ?_
  refine aw_bipush (v := 24) dX11_more_1 (by decide) ?_
  refine aw_iushr dX11_more_3 ?_
  refine aw_iload_n dX11_more_4 rfl ?_
  refine aw_iadd dX11_more_5 ?_
  refine aw_sipush (v := 255) dX11_more_6 (by decide) ?_
  refine aw_iand dX11_more_9 ?_
  refine aw_iload_n dX11_more_10 rfl ?_
  refine aw_bipush (v := 16) dX11_more_11 (by decide) ?_
  refine aw_ishr dX11_more_13 ?_
  refine aw_sipush (v := 255) dX11_more_14 (by decide) ?_
  refine aw_iand dX11_more_17 ?_
  refine aw_iload_n dX11_more_18 rfl ?_
  refine aw_iadd dX11_more_19 ?_
  refine aw_sipush (v := 255) dX11_more_20 (by decide) ?_
  refine aw_iand dX11_more_23 ?_
  refine aw_iload_n dX11_more_24 rfl ?_
  refine aw_bipush (v := 8) dX11_more_25 (by decide) ?_
  refine aw_ishr dX11_more_27 ?_
  refine aw_sipush (v := 255) dX11_more_28 (by decide) ?_
  refine aw_iand dX11_more_31 ?_
  refine aw_iload_n dX11_more_32 rfl ?_
  refine aw_iadd dX11_more_33 ?_
  refine aw_sipush (v := 255) dX11_more_34 (by decide) ?_
  refine aw_iand dX11_more_37 ?_
  refine aw_iload_n dX11_more_38 rfl ?_
  refine aw_sipush (v := 255) dX11_more_39 (by decide) ?_
  refine aw_iand dX11_more_42 ?_
  refine aw_callS dX11_more_43  csX11_115 rfl (kF_X11_mix _ _ (((us a0 24) + a1) &&& 255) ((((a0 >>> ((16 : Int32) &&& 31)) &&& 255) + a2) &&& 255) ((((a0 >>> ((8 : Int32) &&& 31)) &&& 255) + a3) &&& 255) (a0 &&& 255)) rfl (Nat.le_of_ble_eq_true rfl) (by decide) (by decide) (by decide) (by decide) (fun _ _ _ hf => False.elim hf) (fun r43 h43 n43 hp43 => ?_)
  obtain ⟨rfl, rfl, rfl⟩ := hp43
  exact aw_iret dX11_more_46 rfl (Nat.zero_le _) (Nat.zero_le _) (Nat.zero_le _) (Nat.zero_le _) ⟨by subst hE; rfl, rfl, rfl⟩
def F_X11_spot (a0 : Int32) : Int32 := ((((((3 * (us a0 24)) + (5 * ((a0 >>> ((16 : Int32) &&& 31)) &&& 255))) + (7 * ((a0 >>> ((8 : Int32) &&& 31)) &&& 255))) + (11 * (a0 &&& 255))) - ((((3 * (us a0 24)) + (5 * ((a0 >>> ((16 : Int32) &&& 31)) &&& 255))) + (7 * ((a0 >>> ((8 : Int32) &&& 31)) &&& 255))) + (11 * (a0 &&& 255))) / 64 * 64) : Int32)
set_option maxRecDepth 100000 in
theorem kF_X11_spot (h : aH) (n : Nat) (a0 : Int32) : AM mX11_spot 1 [.int a0] h n 0 0 0 0 (isV (.int (F_X11_spot a0)) h n) noX := by
  generalize hE : F_X11_spot a0 = res
  refine aw_of (by decide +kernel) rfl (Nat.le_of_ble_eq_true rfl) ?_
  unfold F_X11_spot at hE
  refine aw_iconst (v := 3) dX11_spot_0 (by decide) ?_
  refine aw_iload_n dX11_spot_1 rfl ?_
  refine aw_bipush (v := 24) dX11_spot_2 (by decide) ?_
  refine aw_iushr dX11_spot_4 ?_
  refine aw_imul dX11_spot_5 ?_
  refine aw_iconst (v := 5) dX11_spot_6 (by decide) ?_
  refine aw_iload_n dX11_spot_7 rfl ?_
  refine aw_bipush (v := 16) dX11_spot_8 (by decide) ?_
  refine aw_ishr dX11_spot_10 ?_
  refine aw_sipush (v := 255) dX11_spot_11 (by decide) ?_
  refine aw_iand dX11_spot_14 ?_
  refine aw_imul dX11_spot_15 ?_
  refine aw_iadd dX11_spot_16 ?_
  refine aw_bipush (v := 7) dX11_spot_17 (by decide) ?_
  refine aw_iload_n dX11_spot_19 rfl ?_
  refine aw_bipush (v := 8) dX11_spot_20 (by decide) ?_
  refine aw_ishr dX11_spot_22 ?_
  refine aw_sipush (v := 255) dX11_spot_23 (by decide) ?_
  refine aw_iand dX11_spot_26 ?_
  refine aw_imul dX11_spot_27 ?_
  refine aw_iadd dX11_spot_28 ?_
  refine aw_bipush (v := 11) dX11_spot_29 (by decide) ?_
  refine aw_iload_n dX11_spot_31 rfl ?_
  refine aw_sipush (v := 255) dX11_spot_32 (by decide) ?_
  refine aw_iand dX11_spot_35 ?_
  refine aw_imul dX11_spot_36 ?_
  refine aw_iadd dX11_spot_37 ?_
  refine aw_bipush (v := 64) dX11_spot_38 (by decide) ?_
  refine aw_irem dX11_spot_40 (by decide) ?_
  exact aw_iret dX11_spot_41 rfl (Nat.zero_le _) (Nat.zero_le _) (Nat.zero_le _) (Nat.zero_le _) ⟨by subst hE; rfl, rfl, rfl⟩
def P_X11_closes (mo : MO) (mw : MW) (ms : Nat) (mt : A) (mu : A) (dd : A) (wi : A) (hi : A) (gt : A) (sp : A) (ta : A) (li : A) (sr : A) (co : A) (hb : aH) (n : Nat) (res : Out MR Int32) : Option Value → aH → Nat → Prop := fun r1 h2 n2 => ∃ (a : Int32) (s : MR), res = fok a s ∧ r1 = some (.int a) ∧ h2 = HM mo mw s ms mt mu dd wi hi gt sp ta li sr co hb ∧ n = n2
abbrev Q_X11_closes_23 (mo : MO) (mw : MW) (ms : Nat) (mt : A) (mu : A) (dd : A) (wi : A) (hi : A) (gt : A) (sp : A) (ta : A) (li : A) (sr : A) (co : A) (hb : aH) (n : Nat) (k : MR → Out MR Int32) : Prop := ∀ (mr : MR) (res : Out MR Int32), k mr = res → res ≠ fno → AW (fun _ _ => True) mX11_closes (rmD 2 0 0) 0 0 (P_X11_closes mo mw ms mt mu dd wi hi gt sp ta li sr co hb n res) (fun _ _ _ => False) 0 0 23 [] [] (HM mo mw mr ms mt mu dd wi hi gt sp ta li sr co hb) n
def F_X11_closes_23   (mr : MR) : Out MR Int32 := fok (1 : Int32) mr
set_option maxHeartbeats 1000000 in
set_option maxRecDepth 100000 in
theorem b_X11_closes_23 (mo : MO) (mw : MW) (ms : Nat) (mt : A) (mu : A) (dd : A) (wi : A) (hi : A) (gt : A) (sp : A) (ta : A) (li : A) (sr : A) (co : A) (hb : aH) (n : Nat)   : Q_X11_closes_23 mo mw ms mt mu dd wi hi gt sp ta li sr co hb n (F_X11_closes_23 ) := by
  intro mr res hE hF
  unfold F_X11_closes_23 at hE
  refine aw_iconst (v := 1) dX11_closes_23 (by decide) ?_
  refine aw_goto (tgt := 28) dX11_closes_24 (by decide) ?_
  exact aw_zret dX11_closes_28 rfl (narB (by decide)) (Nat.zero_le _) (Nat.zero_le _) (Nat.zero_le _) (Nat.zero_le _) ⟨_, _, hE.symm, rfl, rfl, rfl⟩
def F_X11_closes (mr : MR) : Out MR Int32 := if (mr_pos mr) = (mr_size mr) then (F_X11_closes_23  mr) else (fon (F_X11_wrong 5 (mr_pos mr) mr) (fun z17 s17 => if z17 = 0 then (fok (0 : Int32) s17) else (F_X11_closes_23  s17)) (fun _ _ => fno))
set_option maxHeartbeats 1000000 in
set_option maxRecDepth 100000 in
theorem kF_X11_closes (mo : MO) (mw : MW) (mr : MR) (ms : Nat) (mt : A) (mu : A) (dd : A) (wi : A) (hi : A) (gt : A) (sp : A) (ta : A) (li : A) (sr : A) (co : A) (hb : aH) (n : Nat)   (hF : F_X11_closes mr ≠ fno) : AM mX11_closes 2 [.ref 31] (HM mo mw mr ms mt mu dd wi hi gt sp ta li sr co hb) n 0 0 0 0 (P_X11_closes mo mw ms mt mu dd wi hi gt sp ta li sr co hb n (F_X11_closes mr)) (fun _ _ _ => False) := by
  generalize hE : F_X11_closes mr = res at hF ⊢
  refine aw_of (by decide +kernel) rfl (Nat.le_of_ble_eq_true rfl) ?_
  unfold F_X11_closes at hE
  refine aw_aload_n dX11_closes_0 rfl ?_
  refine aw_getf (v := .int (mr_pos mr)) dX11_closes_1 flX11_84_10 at_mod rfl ?_
  refine aw_aload_n dX11_closes_4 rfl ?_
  refine aw_getf (v := .int (mr_size mr)) dX11_closes_5 flX11_87_10 at_mod rfl ?_
  refine aw_icmp_eq (tgt := 23) dX11_closes_8 (by decide) (fun c8 => ?_) (fun c8 => ?_)
  · replace hE := fit hE c8
    exact aw_lv _ (fun _ h => absurd h List.not_mem_nil) (b_X11_closes_23 mo mw ms mt mu dd wi hi gt sp ta li sr co hb n   mr _ hE hF)
  · replace hE := fif hE c8
    refine aw_aload_n dX11_closes_11 rfl ?_
    refine aw_iconst (v := 5) dX11_closes_12 (by decide) ?_
    refine aw_aload_n dX11_closes_13 rfl ?_
    refine aw_getf (v := .int (mr_pos mr)) dX11_closes_14 flX11_84_10 at_mod rfl ?_
    refine aw_callV dX11_closes_17 at_mod cvX11_90 rfl (kF_X11_wrong mo mw mr ms mt mu dd wi hi gt sp ta li sr co hb _  5 (mr_pos mr) (fon_ne hE hF)) rfl (Nat.le_of_ble_eq_true rfl) (by decide) (by decide) (by decide) (by decide) (fun _ _ _ hf => False.elim hf) (fun r17 h17 n17 hp17 => ?_)
    obtain ⟨z17, s17, e17, rfl, rfl, rfl⟩ := hp17
    replace hE := fon_ok e17 hE
    refine aw_if_eq (tgt := 27) dX11_closes_20 (by decide) (fun c20 => ?_) (fun c20 => ?_)
    · replace hE := fit hE c20
      refine aw_iconst (v := 0) dX11_closes_27 (by decide) ?_
      exact aw_zret dX11_closes_28 rfl (narB (by decide)) (Nat.zero_le _) (Nat.zero_le _) (Nat.zero_le _) (Nat.zero_le _) ⟨_, _, hE.symm, rfl, rfl, rfl⟩
    · replace hE := fif hE c20
      exact aw_lv _ (fun _ h => absurd h List.not_mem_nil) (b_X11_closes_23 mo mw ms mt mu dd wi hi gt sp ta li sr co hb n   s17 _ hE hF)
def F_X11_isBlank (a1 : Int32) : Int32 := if a1 < 9 then (if a1 = 32 then ((1 : Int32)) else ((0 : Int32))) else (if a1 ≤ 13 then ((1 : Int32)) else (if a1 = 32 then ((1 : Int32)) else ((0 : Int32))))
set_option maxRecDepth 100000 in
theorem kF_X11_isBlank (h : aH) (n : Nat) (q : Nat) (a1 : Int32) : AM mX11_isBlank 1 [.ref q, .int a1] h n 0 0 0 0 (isV (.int (F_X11_isBlank a1)) h n) noX := by
  generalize hE : F_X11_isBlank a1 = res
  refine aw_of (by decide +kernel) rfl (Nat.le_of_ble_eq_true rfl) ?_
  unfold F_X11_isBlank at hE
  refine aw_iload_n dX11_isBlank_0 rfl ?_
  refine aw_bipush (v := 9) dX11_isBlank_1 (by decide) ?_
  refine aw_icmp_lt (tgt := 12) dX11_isBlank_3 (by decide) (fun c3 => ?_) (fun c3 => ?_)
  · replace hE := fit hE c3
    refine aw_iload_n dX11_isBlank_12 rfl ?_
    refine aw_bipush (v := 32) dX11_isBlank_13 (by decide) ?_
    refine aw_icmp_ne (tgt := 22) dX11_isBlank_15 (by decide) (fun c15 => ?_) (fun c15 => ?_)
    · replace hE := fif hE c15
      refine aw_iconst (v := 0) dX11_isBlank_22 (by decide) ?_
      exact aw_zret dX11_isBlank_23 rfl (narB (by decide)) (Nat.zero_le _) (Nat.zero_le _) (Nat.zero_le _) (Nat.zero_le _) ⟨by subst hE; rfl, rfl, rfl⟩
    · replace hE := fit hE c15
      refine aw_iconst (v := 1) dX11_isBlank_18 (by decide) ?_
      refine aw_goto (tgt := 23) dX11_isBlank_19 (by decide) ?_
      exact aw_zret dX11_isBlank_23 rfl (narB (by decide)) (Nat.zero_le _) (Nat.zero_le _) (Nat.zero_le _) (Nat.zero_le _) ⟨by subst hE; rfl, rfl, rfl⟩
  · replace hE := fif hE c3
    refine aw_iload_n dX11_isBlank_6 rfl ?_
    refine aw_bipush (v := 13) dX11_isBlank_7 (by decide) ?_
    refine aw_icmp_le (tgt := 18) dX11_isBlank_9 (by decide) (fun c9 => ?_) (fun c9 => ?_)
    · replace hE := fit hE c9
      refine aw_iconst (v := 1) dX11_isBlank_18 (by decide) ?_
      refine aw_goto (tgt := 23) dX11_isBlank_19 (by decide) ?_
      exact aw_zret dX11_isBlank_23 rfl (narB (by decide)) (Nat.zero_le _) (Nat.zero_le _) (Nat.zero_le _) (Nat.zero_le _) ⟨by subst hE; rfl, rfl, rfl⟩
    · replace hE := fif hE c9
      refine aw_iload_n dX11_isBlank_12 rfl ?_
      refine aw_bipush (v := 32) dX11_isBlank_13 (by decide) ?_
      refine aw_icmp_ne (tgt := 22) dX11_isBlank_15 (by decide) (fun c15 => ?_) (fun c15 => ?_)
      · replace hE := fif hE c15
        refine aw_iconst (v := 0) dX11_isBlank_22 (by decide) ?_
        exact aw_zret dX11_isBlank_23 rfl (narB (by decide)) (Nat.zero_le _) (Nat.zero_le _) (Nat.zero_le _) (Nat.zero_le _) ⟨by subst hE; rfl, rfl, rfl⟩
      · replace hE := fit hE c15
        refine aw_iconst (v := 1) dX11_isBlank_18 (by decide) ?_
        refine aw_goto (tgt := 23) dX11_isBlank_19 (by decide) ?_
        exact aw_zret dX11_isBlank_23 rfl (narB (by decide)) (Nat.zero_le _) (Nat.zero_le _) (Nat.zero_le _) (Nat.zero_le _) ⟨by subst hE; rfl, rfl, rfl⟩
