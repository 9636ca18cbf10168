def P_X5_readOneBlank (m0 : Mnt) (sh : Nat → Nat) (rr : Nat → Ras) (ww : Nat → Row) (so : Nat) (pl : Pal) (qo : Qoi) (pn : Pnm) (bm : Bmp) (tg : Tga) (px : Pcx) (fa : A) (hb : aH) (n : Nat) (res : Out Src Unit) : Option Value → aH → Nat → Prop := fun r1 h2 n2 => ∃ (a : Unit) (s : Src), res = fok a s ∧ r1 = none ∧ h2 = HC m0 sh rr ww so s pl qo pn bm tg px fa hb ∧ n = n2
def X_X5_readOneBlank (m0 : Mnt) (sh : Nat → Nat) (rr : Nat → Ras) (ww : Nat → Row) (so : Nat) (pl : Pal) (qo : Qoi) (pn : Pnm) (bm : Bmp) (tg : Tga) (px : Pcx) (fa : A) (hb : aH) (n : Nat) (res : Out Src Unit) : String → aH → Nat → Prop := fun E h2 n2 => ∃ s : Src, res = fex E s ∧ h2 = HC m0 sh rr ww so s pl qo pn bm tg px fa hb ∧ n = n2
def F_X5_readOneBlank (sc : Src) (sb : A) : Out Src Unit := fon (F_X8_next sc sb) (fun z6 s6 => if (F_X5_isBlank z6) = 0 then (fon (F_X8_refuse 2 (sc_pos sc) s6) (fun _ _ => fno) (fun E s18 => fex E s18)) else (fok () s6)) (fun E s6 => fex E s6)
set_option maxHeartbeats 1000000 in
set_option maxRecDepth 100000 in
theorem kF_X5_readOneBlank (m0 : Mnt) (sh : Nat → Nat) (rr : Nat → Ras) (ww : Nat → Row) (so : Nat) (sc : Src) (pl : Pal) (qo : Qoi) (pn : Pnm) (bm : Bmp) (tg : Tga) (px : Pcx) (fa : A) (hb : aH) (n : Nat) (hso : isW so)  (hF : F_X5_readOneBlank sc (y_b (ww so)) ≠ fno) : AM mX5_readOneBlank 4 [.ref 16] (HC m0 sh rr ww so sc pl qo pn bm tg px fa hb) n 1 6 0 0 (P_X5_readOneBlank m0 sh rr ww so pl qo pn bm tg px fa hb n (F_X5_readOneBlank sc (y_b (ww so)))) (X_X5_readOneBlank m0 sh rr ww so pl qo pn bm tg px fa hb n (F_X5_readOneBlank sc (y_b (ww so)))) := by
  generalize hE : F_X5_readOneBlank sc (y_b (ww so)) = res at hF ⊢
  refine aw_of (by decide +kernel) rfl (Nat.le_of_ble_eq_true rfl) ?_
  unfold F_X5_readOneBlank at hE
  refine aw_aload_n dX5_readOneBlank_0 rfl ?_
  refine aw_getf (v := .int (sc_pos sc)) dX5_readOneBlank_1 flX5_47_7 at_src rfl ?_
  refine aw_istore_n (lv2 := [(1, _), (0, _)]) dX5_readOneBlank_4 (by decide) rfl ?_
  refine aw_aload_n dX5_readOneBlank_5 rfl ?_
  refine aw_callV dX5_readOneBlank_6 at_src cvX5_68 rfl (kF_X8_next m0 sh rr ww so sc pl qo pn bm tg px fa hb _ hso  (fon_ne hE hF)) rfl (Nat.le_of_ble_eq_true rfl) (by decide) (by decide) (by decide) (by decide) (fun E h2 n2 hx => aw_out rfl (by decide) (by decide) (by obtain ⟨s6, e6, rfl, rfl⟩ := hx; exact ⟨_, (fon_ex e6 hE).symm, rfl, rfl⟩)) (fun r6 h6 n6 hp6 => ?_)
  obtain ⟨z6, s6, e6, rfl, rfl, rfl⟩ := hp6
  replace hE := fon_ok e6 hE
  refine aw_callS dX5_readOneBlank_9  csX5_84 rfl (kF_X5_isBlank _ _ z6) rfl (Nat.le_of_ble_eq_true rfl) (by decide) (by decide) (by decide) (by decide) (fun _ _ _ hf => False.elim hf) (fun r9 h9 n9 hp9 => ?_)
  obtain ⟨rfl, rfl, rfl⟩ := hp9
  refine aw_if_ne (tgt := 21) dX5_readOneBlank_12 (by decide) (fun c12 => ?_) (fun c12 => ?_)
  · replace hE := fif hE c12
    exact aw_vret dX5_readOneBlank_21 rfl (Nat.zero_le _) (Nat.zero_le _) (Nat.zero_le _) (Nat.zero_le _) ⟨_, _, hE.symm, rfl, rfl, rfl⟩
  · replace hE := fit hE c12
    refine aw_aload_n dX5_readOneBlank_15 rfl ?_
    refine aw_iconst (v := 2) dX5_readOneBlank_16 (by decide) ?_
    refine aw_iload_n dX5_readOneBlank_17 rfl ?_
    refine aw_callV dX5_readOneBlank_18 at_src cvX5_72 rfl (kF_X8_refuse m0 sh rr ww so s6 pl qo pn bm tg px fa hb _  2 (sc_pos sc) (fon_ne hE hF)) rfl (Nat.le_of_ble_eq_true rfl) (by decide) (by decide) (by decide) (by decide) (fun E h2 n2 hx => aw_out rfl (by decide) (by decide) (by obtain ⟨s18, e18, rfl, rfl⟩ := hx; exact ⟨_, (fon_ex e18 hE).symm, rfl, rfl⟩)) (fun r18 h18 n18 hp18 => ?_)
    obtain ⟨z18, s18, e18, rfl, rfl, rfl⟩ := hp18
    exact (hF (fon_ok e18 hE).symm).elim
def P_X5_readBits (m0 : Mnt) (sh : Nat → Nat) (rr : Nat → Ras) (r : Nat) (ww : Nat → Row) (so : Nat) (pl : Pal) (qo : Qoi) (pn : Pnm) (bm : Bmp) (tg : Tga) (px : Pcx) (fa : A) (hb : aH) (n : Nat) (res : Out (Ras × Src) Unit) : Option Value → aH → Nat → Prop := fun r1 h2 n2 => ∃ (a : Unit) (s : (Ras × Src)), res = fok a s ∧ r1 = none ∧ h2 = HC m0 sh (va_up rr r s.1) ww so s.2 pl qo pn bm tg px fa hb ∧ n = n2
def X_X5_readBits (m0 : Mnt) (sh : Nat → Nat) (rr : Nat → Ras) (r : Nat) (ww : Nat → Row) (so : Nat) (pl : Pal) (qo : Qoi) (pn : Pnm) (bm : Bmp) (tg : Tga) (px : Pcx) (fa : A) (hb : aH) (n : Nat) (res : Out (Ras × Src) Unit) : String → aH → Nat → Prop := fun E h2 n2 => ∃ s : (Ras × Src), res = fex E s ∧ h2 = HC m0 sh (va_up rr r s.1) ww so s.2 pl qo pn bm tg px fa hb ∧ n = n2
abbrev Q_X5_readBits_7 (m0 : Mnt) (sh : Nat → Nat) (rr : Nat → Ras) (r : Nat) (ww : Nat → Row) (so : Nat) (pl : Pal) (qo : Qoi) (pn : Pnm) (bm : Bmp) (tg : Tga) (px : Pcx) (fa : A) (hb : aH) (n : Nat) (k : Int32 → Int32 → Int32 → Ras → Src → Out (Ras × Src) Unit) : Prop := ∀ (v2 : Int32) (v3 : Int32) (v4 : Int32) (x : Ras) (sc : Src) (res : Out (Ras × Src) Unit), k v2 v3 v4 x sc = res → res ≠ fno → AW (fun _ _ => True) mX5_readBits (rmD 4 1 6) 0 0 (P_X5_readBits m0 sh rr r ww so pl qo pn bm tg px fa hb n res) (X_X5_readBits m0 sh rr r ww so pl qo pn bm tg px fa hb n res) 0 0 7 [(0, .ref 16), (1, .ref r), (2, .int v2), (3, .int v3), (4, .int v4)] [] (HC m0 sh (va_up rr r x) ww so sc pl qo pn bm tg px fa hb) n
abbrev Q_X5_readBits_19 (m0 : Mnt) (sh : Nat → Nat) (rr : Nat → Ras) (r : Nat) (ww : Nat → Row) (so : Nat) (pl : Pal) (qo : Qoi) (pn : Pnm) (bm : Bmp) (tg : Tga) (px : Pcx) (fa : A) (hb : aH) (n : Nat) (k : Int32 → Int32 → Int32 → Int32 → Ras → Src → Out (Ras × Src) Unit) : Prop := ∀ (v2 : Int32) (v3 : Int32) (v4 : Int32) (v5 : Int32) (x : Ras) (sc : Src) (res : Out (Ras × Src) Unit), k v2 v3 v4 v5 x sc = res → res ≠ fno → AW (fun _ _ => True) mX5_readBits (rmD 4 1 6) 0 0 (P_X5_readBits m0 sh rr r ww so pl qo pn bm tg px fa hb n res) (X_X5_readBits m0 sh rr r ww so pl qo pn bm tg px fa hb n res) 0 0 19 [(0, .ref 16), (1, .ref r), (2, .int v2), (3, .int v3), (4, .int v4), (5, .int v5)] [] (HC m0 sh (va_up rr r x) ww so sc pl qo pn bm tg px fa hb) n
abbrev Q_X5_readBits_46 (m0 : Mnt) (sh : Nat → Nat) (rr : Nat → Ras) (r : Nat) (ww : Nat → Row) (so : Nat) (pl : Pal) (qo : Qoi) (pn : Pnm) (bm : Bmp) (tg : Tga) (px : Pcx) (fa : A) (hb : aH) (n : Nat) (k : Int32 → Int32 → Int32 → Int32 → Ras → Src → Out (Ras × Src) Unit) : Prop := ∀ (v2 : Int32) (v4 : Int32) (v5 : Int32) (t0 : Int32) (x : Ras) (sc : Src) (res : Out (Ras × Src) Unit), k v2 v4 v5 t0 x sc = res → res ≠ fno → AW (fun _ _ => True) mX5_readBits (rmD 4 1 6) 0 0 (P_X5_readBits m0 sh rr r ww so pl qo pn bm tg px fa hb n res) (X_X5_readBits m0 sh rr r ww so pl qo pn bm tg px fa hb n res) 0 0 46 [(0, .ref 16), (1, .ref r), (2, .int v2), (4, .int v4), (5, .int v5)] [.int t0] (HC m0 sh (va_up rr r x) ww so sc pl qo pn bm tg px fa hb) n
abbrev Q_X5_readBits_64 (m0 : Mnt) (sh : Nat → Nat) (rr : Nat → Ras) (r : Nat) (ww : Nat → Row) (so : Nat) (pl : Pal) (qo : Qoi) (pn : Pnm) (bm : Bmp) (tg : Tga) (px : Pcx) (fa : A) (hb : aH) (n : Nat) (k : Int32 → Int32 → Int32 → Int32 → Int32 → Int32 → Ras → Src → Out (Ras × Src) Unit) : Prop := ∀ (v2 : Int32) (v3 : Int32) (v4 : Int32) (v5 : Int32) (t0 : Int32) (t1 : Int32) (x : Ras) (sc : Src) (res : Out (Ras × Src) Unit), k v2 v3 v4 v5 t0 t1 x sc = res → res ≠ fno → AW (fun _ _ => True) mX5_readBits (rmD 4 1 6) 0 0 (P_X5_readBits m0 sh rr r ww so pl qo pn bm tg px fa hb n res) (X_X5_readBits m0 sh rr r ww so pl qo pn bm tg px fa hb n res) 0 0 64 [(0, .ref 16), (1, .ref r), (2, .int v2), (3, .int v3), (4, .int v4), (5, .int v5)] [.int t0, .int t1, .ref r] (HC m0 sh (va_up rr r x) ww so sc pl qo pn bm tg px fa hb) n
def F_X5_readBits_64 (sb : A) (k7 : Int32 → Int32 → Int32 → Ras → Src → Out (Ras × Src) Unit) (k19 : Int32 → Int32 → Int32 → Int32 → Ras → Src → Out (Ras × Src) Unit) (v2 : Int32) (v3 : Int32) (v4 : Int32) (v5 : Int32) (t0 : Int32) (t1 : Int32) (x : Ras) (sc : Src) : Out (Ras × Src) Unit := fon (F_X7_set t1 t0 x) (fun z64 s64 => k19 (v2 + 1) v3 v4 (v5 + 1) s64 sc) (fun _ _ => fno)
set_option maxHeartbeats 1000000 in
set_option maxRecDepth 100000 in
theorem b_X5_readBits_64 (m0 : Mnt) (sh : Nat → Nat) (rr : Nat → Ras) (r : Nat) (ww : Nat → Row) (so : Nat) (pl : Pal) (qo : Qoi) (pn : Pnm) (bm : Bmp) (tg : Tga) (px : Pcx) (fa : A) (hb : aH) (n : Nat) (hr : isR r) (hso : isW so) (k7 : Int32 → Int32 → Int32 → Ras → Src → Out (Ras × Src) Unit) (hk7 : Q_X5_readBits_7 m0 sh rr r ww so pl qo pn bm tg px fa hb n k7) (k19 : Int32 → Int32 → Int32 → Int32 → Ras → Src → Out (Ras × Src) Unit) (hk19 : Q_X5_readBits_19 m0 sh rr r ww so pl qo pn bm tg px fa hb n k19) : Q_X5_readBits_64 m0 sh rr r ww so pl qo pn bm tg px fa hb n (F_X5_readBits_64 (y_b (ww so)) k7 k19) := by
  intro v2 v3 v4 v5 t0 t1 x sc res hE hF
  unfold F_X5_readBits_64 at hE
  refine aw_callV dX5_readBits_64 (at_ras hr) cvX5_108 rfl (kF_X7_set m0 sh rr r x ww so sc pl qo pn bm tg px fa hb _ hr t1 t0 (fon_ne hE hF)) rfl (Nat.le_of_ble_eq_true rfl) (by decide) (by decide) (by decide) (by decide) (fun _ _ _ hf => False.elim hf) (fun r64 h64 n64 hp64 => ?_)
  obtain ⟨z64, s64, e64, rfl, rfl, rfl⟩ := hp64
  replace hE := fon_ok e64 hE
  refine aw_iinc (v := (v2 + 1)) (lv2 := [(2, _), (0, _), (1, _), (3, _), (4, _), (5, _)]) dX5_readBits_67 rfl (incE (by decide)) (by decide) rfl ?_
  refine aw_iinc (v := (v5 + 1)) (lv2 := [(5, _), (2, _), (0, _), (1, _), (3, _), (4, _)]) dX5_readBits_70 rfl (incE (by decide)) (by decide) rfl ?_
  refine aw_goto (tgt := 19) dX5_readBits_73 (by decide) ?_
  exact aw_lv _ (List.forall_mem_cons.mpr ⟨rfl, (List.forall_mem_cons.mpr ⟨rfl, (List.forall_mem_cons.mpr ⟨rfl, (List.forall_mem_cons.mpr ⟨rfl, (List.forall_mem_cons.mpr ⟨rfl, (List.forall_mem_cons.mpr ⟨rfl, fun _ h => absurd h List.not_mem_nil⟩)⟩)⟩)⟩)⟩)⟩) (hk19 (v2 + 1) v3 v4 (v5 + 1) s64 sc _ hE hF)
def F_X5_readBits_46 (sb : A) (k7 : Int32 → Int32 → Int32 → Ras → Src → Out (Ras × Src) Unit) (k19 : Int32 → Int32 → Int32 → Int32 → Ras → Src → Out (Ras × Src) Unit) (v2 : Int32) (v4 : Int32) (v5 : Int32) (t0 : Int32) (x : Ras) (sc : Src) : Out (Ras × Src) Unit := if (t0 &&& 128) = 0 then (F_X5_readBits_64 sb k7 k19 v2 t0 v4 v5 (-1 : Int32) v2 x sc) else (F_X5_readBits_64 sb k7 k19 v2 t0 v4 v5 (255 : Int32) v2 x sc)
set_option maxHeartbeats 1000000 in
set_option maxRecDepth 100000 in
theorem b_X5_readBits_46 (m0 : Mnt) (sh : Nat → Nat) (rr : Nat → Ras) (r : Nat) (ww : Nat → Row) (so : Nat) (pl : Pal) (qo : Qoi) (pn : Pnm) (bm : Bmp) (tg : Tga) (px : Pcx) (fa : A) (hb : aH) (n : Nat) (hr : isR r) (hso : isW so) (k7 : Int32 → Int32 → Int32 → Ras → Src → Out (Ras × Src) Unit) (hk7 : Q_X5_readBits_7 m0 sh rr r ww so pl qo pn bm tg px fa hb n k7) (k19 : Int32 → Int32 → Int32 → Int32 → Ras → Src → Out (Ras × Src) Unit) (hk19 : Q_X5_readBits_19 m0 sh rr r ww so pl qo pn bm tg px fa hb n k19) : Q_X5_readBits_46 m0 sh rr r ww so pl qo pn bm tg px fa hb n (F_X5_readBits_46 (y_b (ww so)) k7 k19) := by
  intro v2 v4 v5 t0 x sc res hE hF
  unfold F_X5_readBits_46 at hE
  refine aw_istore_n (lv2 := [(3, _), (0, _), (1, _), (2, _), (4, _), (5, _)]) dX5_readBits_46 (by decide) rfl ?_
  refine aw_aload_n dX5_readBits_47 rfl ?_
  refine aw_iload_n dX5_readBits_48 rfl ?_
  refine aw_iload_n dX5_readBits_49 rfl ?_
  refine aw_sipush (v := 128) dX5_readBits_50 (by decide) ?_
  refine aw_iand dX5_readBits_53 ?_
  refine aw_if_eq (tgt := 63) dX5_readBits_54 (by decide) (fun c54 => ?_) (fun c54 => ?_)
  · replace hE := fit hE c54
    refine aw_iconst (v := (-1)) dX5_readBits_63 (by decide) ?_
    exact aw_lv _ (List.forall_mem_cons.mpr ⟨rfl, (List.forall_mem_cons.mpr ⟨rfl, (List.forall_mem_cons.mpr ⟨rfl, (List.forall_mem_cons.mpr ⟨rfl, (List.forall_mem_cons.mpr ⟨rfl, (List.forall_mem_cons.mpr ⟨rfl, fun _ h => absurd h List.not_mem_nil⟩)⟩)⟩)⟩)⟩)⟩) (b_X5_readBits_64 m0 sh rr r ww so pl qo pn bm tg px fa hb n hr hso k7 hk7 k19 hk19 v2 t0 v4 v5 (-1 : Int32) v2 x sc _ hE hF)
  · replace hE := fif hE c54
    refine aw_sipush (v := 255) dX5_readBits_57 (by decide) ?_
    refine aw_goto (tgt := 64) dX5_readBits_60 (by decide) ?_
    exact aw_lv _ (List.forall_mem_cons.mpr ⟨rfl, (List.forall_mem_cons.mpr ⟨rfl, (List.forall_mem_cons.mpr ⟨rfl, (List.forall_mem_cons.mpr ⟨rfl, (List.forall_mem_cons.mpr ⟨rfl, (List.forall_mem_cons.mpr ⟨rfl, fun _ h => absurd h List.not_mem_nil⟩)⟩)⟩)⟩)⟩)⟩) (b_X5_readBits_64 m0 sh rr r ww so pl qo pn bm tg px fa hb n hr hso k7 hk7 k19 hk19 v2 t0 v4 v5 (255 : Int32) v2 x sc _ hE hF)
def F_X5_readBits_19 (sb : A) (k7 : Int32 → Int32 → Int32 → Ras → Src → Out (Ras × Src) Unit) (k19 : Int32 → Int32 → Int32 → Int32 → Ras → Src → Out (Ras × Src) Unit) (v2 : Int32) (v3 : Int32) (v4 : Int32) (v5 : Int32) (x : Ras) (sc : Src) : Out (Ras × Src) Unit := if (x_w x) ≤ v5 then (k7 v2 v3 (v4 + 1) x sc) else (if (v5 &&& 7) = 0 then (fon (F_X8_next sc sb) (fun z37 s37 => F_X5_readBits_46 sb k7 k19 v2 v4 v5 z37 x s37) (fun E s37 => fex E (x, s37))) else (F_X5_readBits_46 sb k7 k19 v2 v4 v5 (v3 <<< ((1 : Int32) &&& 31)) x sc))
set_option maxHeartbeats 1000000 in
set_option maxRecDepth 100000 in
theorem b_X5_readBits_19 (m0 : Mnt) (sh : Nat → Nat) (rr : Nat → Ras) (r : Nat) (ww : Nat → Row) (so : Nat) (pl : Pal) (qo : Qoi) (pn : Pnm) (bm : Bmp) (tg : Tga) (px : Pcx) (fa : A) (hb : aH) (n : Nat) (hr : isR r) (hso : isW so) (k7 : Int32 → Int32 → Int32 → Ras → Src → Out (Ras × Src) Unit) (hk7 : Q_X5_readBits_7 m0 sh rr r ww so pl qo pn bm tg px fa hb n k7) (k19 : Int32 → Int32 → Int32 → Int32 → Ras → Src → Out (Ras × Src) Unit) (hk19 : Q_X5_readBits_19 m0 sh rr r ww so pl qo pn bm tg px fa hb n k19) : Q_X5_readBits_19 m0 sh rr r ww so pl qo pn bm tg px fa hb n (F_X5_readBits_19 (y_b (ww so)) k7 k19) := by
  intro v2 v3 v4 v5 x sc res hE hF
  unfold F_X5_readBits_19 at hE
  refine aw_iload dX5_readBits_19 rfl ?_
  refine aw_aload_n dX5_readBits_21 rfl ?_
  refine aw_getf (v := .int (x_w x)) dX5_readBits_22 flX5_114_6 (at_ras hr) rfl ?_
  refine aw_icmp_ge (tgt := 76) dX5_readBits_25 (by decide) (fun c25 => ?_) (fun c25 => ?_)
  · replace hE := fit hE c25
    refine aw_iinc (v := (v4 + 1)) (lv2 := [(4, _), (0, _), (1, _), (2, _), (3, _), (5, _)]) dX5_readBits_76 rfl (incE (by decide)) (by decide) rfl ?_
    refine aw_goto (tgt := 7) dX5_readBits_79 (by decide) ?_
    exact aw_lv _ (List.forall_mem_cons.mpr ⟨rfl, (List.forall_mem_cons.mpr ⟨rfl, (List.forall_mem_cons.mpr ⟨rfl, (List.forall_mem_cons.mpr ⟨rfl, (List.forall_mem_cons.mpr ⟨rfl, fun _ h => absurd h List.not_mem_nil⟩)⟩)⟩)⟩)⟩) (hk7 v2 v3 (v4 + 1) x sc _ hE hF)
  · replace hE := fif hE c25
    refine aw_iload dX5_readBits_28 rfl ?_
    refine aw_bipush (v := 7) dX5_readBits_30 (by decide) ?_
    refine aw_iand dX5_readBits_32 ?_
    refine aw_if_ne (tgt := 43) dX5_readBits_33 (by decide) (fun c33 => ?_) (fun c33 => ?_)
    · replace hE := fif hE c33
      refine aw_iload_n dX5_readBits_43 rfl ?_
      refine aw_iconst (v := 1) dX5_readBits_44 (by decide) ?_
      refine aw_ishl dX5_readBits_45 ?_
      exact aw_lv _ (List.forall_mem_cons.mpr ⟨rfl, (List.forall_mem_cons.mpr ⟨rfl, (List.forall_mem_cons.mpr ⟨rfl, (List.forall_mem_cons.mpr ⟨rfl, (List.forall_mem_cons.mpr ⟨rfl, fun _ h => absurd h List.not_mem_nil⟩)⟩)⟩)⟩)⟩) (b_X5_readBits_46 m0 sh rr r ww so pl qo pn bm tg px fa hb n hr hso k7 hk7 k19 hk19 v2 v4 v5 (v3 <<< ((1 : Int32) &&& 31)) x sc _ hE hF)
    · replace hE := fit hE c33
      refine aw_aload_n dX5_readBits_36 rfl ?_
      refine aw_callV dX5_readBits_37 at_src cvX5_68 rfl (kF_X8_next m0 sh (va_up rr r x) ww so sc pl qo pn bm tg px fa hb _ hso  (fon_ne hE hF)) rfl (Nat.le_of_ble_eq_true rfl) (by decide) (by decide) (by decide) (by decide) (fun E h2 n2 hx => aw_out rfl (by decide) (by decide) (by obtain ⟨s37, e37, rfl, rfl⟩ := hx; exact ⟨_, (fon_ex e37 hE).symm, rfl, rfl⟩)) (fun r37 h37 n37 hp37 => ?_)
      obtain ⟨z37, s37, e37, rfl, rfl, rfl⟩ := hp37
      replace hE := fon_ok e37 hE
      refine aw_goto (tgt := 46) dX5_readBits_40 (by decide) ?_
      exact aw_lv _ (List.forall_mem_cons.mpr ⟨rfl, (List.forall_mem_cons.mpr ⟨rfl, (List.forall_mem_cons.mpr ⟨rfl, (List.forall_mem_cons.mpr ⟨rfl, (List.forall_mem_cons.mpr ⟨rfl, fun _ h => absurd h List.not_mem_nil⟩)⟩)⟩)⟩)⟩) (b_X5_readBits_46 m0 sh rr r ww so pl qo pn bm tg px fa hb n hr hso k7 hk7 k19 hk19 v2 v4 v5 z37 x s37 _ hE hF)
def F_X5_readBits_7 (sb : A) (k7 : Int32 → Int32 → Int32 → Ras → Src → Out (Ras × Src) Unit) (v2 : Int32) (v3 : Int32) (v4 : Int32) (x : Ras) (sc : Src) : Out (Ras × Src) Unit := if (x_g x) ≤ v4 then (fok () (x, sc)) else (lp (fun _ _ _ _ _ _ => fno) (F_X5_readBits_19 sb k7) FU v2 v3 v4 (0 : Int32) x sc)
set_option maxHeartbeats 1000000 in
set_option maxRecDepth 100000 in
theorem b_X5_readBits_7 (m0 : Mnt) (sh : Nat → Nat) (rr : Nat → Ras) (r : Nat) (ww : Nat → Row) (so : Nat) (pl : Pal) (qo : Qoi) (pn : Pnm) (bm : Bmp) (tg : Tga) (px : Pcx) (fa : A) (hb : aH) (n : Nat) (hr : isR r) (hso : isW so) (k7 : Int32 → Int32 → Int32 → Ras → Src → Out (Ras × Src) Unit) (hk7 : Q_X5_readBits_7 m0 sh rr r ww so pl qo pn bm tg px fa hb n k7) : Q_X5_readBits_7 m0 sh rr r ww so pl qo pn bm tg px fa hb n (F_X5_readBits_7 (y_b (ww so)) k7) := by
  intro v2 v3 v4 x sc res hE hF
  unfold F_X5_readBits_7 at hE
  refine aw_iload dX5_readBits_7 rfl ?_
  refine aw_aload_n dX5_readBits_9 rfl ?_
  refine aw_getf (v := .int (x_g x)) dX5_readBits_10 flX5_111_6 (at_ras hr) rfl ?_
  refine aw_icmp_ge (tgt := 82) dX5_readBits_13 (by decide) (fun c13 => ?_) (fun c13 => ?_)
  · replace hE := fit hE c13
    exact aw_vret dX5_readBits_82 rfl (Nat.zero_le _) (Nat.zero_le _) (Nat.zero_le _) (Nat.zero_le _) ⟨_, _, hE.symm, rfl, rfl, rfl⟩
  · replace hE := fif hE c13
    refine aw_iconst (v := 0) dX5_readBits_16 (by decide) ?_
    refine aw_istore (lv2 := [(5, _), (0, _), (1, _), (2, _), (3, _), (4, _)]) dX5_readBits_17 (by decide) rfl ?_
    exact aw_lv _ (List.forall_mem_cons.mpr ⟨rfl, (List.forall_mem_cons.mpr ⟨rfl, (List.forall_mem_cons.mpr ⟨rfl, (List.forall_mem_cons.mpr ⟨rfl, (List.forall_mem_cons.mpr ⟨rfl, (List.forall_mem_cons.mpr ⟨rfl, fun _ h => absurd h List.not_mem_nil⟩)⟩)⟩)⟩)⟩)⟩) (lp_ind (Q_X5_readBits_19 m0 sh rr r ww so pl qo pn bm tg px fa hb n) (fun _ _ _ _ _ _ res hq hF => (hF hq.symm).elim) (fun k hk => b_X5_readBits_19 m0 sh rr r ww so pl qo pn bm tg px fa hb n hr hso k7 hk7 k hk) FU v2 v3 v4 (0 : Int32) x sc _ hE hF)
def F_X5_readBits (x : Ras) (sc : Src) (sb : A) : Out (Ras × Src) Unit := lp (fun _ _ _ _ _ => fno) (F_X5_readBits_7 sb) FU (0 : Int32) (0 : Int32) (0 : Int32) x sc
set_option maxHeartbeats 1000000 in
set_option maxRecDepth 100000 in
theorem kF_X5_readBits (m0 : Mnt) (sh : Nat → Nat) (rr : Nat → Ras) (r : Nat) (x : Ras) (ww : Nat → Row) (so : Nat) (sc : Src) (pl : Pal) (qo : Qoi) (pn : Pnm) (bm : Bmp) (tg : Tga) (px : Pcx) (fa : A) (hb : aH) (n : Nat) (hr : isR r) (hso : isW so)  (hF : F_X5_readBits x sc (y_b (ww so)) ≠ fno) : AM mX5_readBits 4 [.ref 16, .ref r] (HC m0 sh (va_up rr r x) ww so sc pl qo pn bm tg px fa hb) n 1 6 0 0 (P_X5_readBits m0 sh rr r ww so pl qo pn bm tg px fa hb n (F_X5_readBits x sc (y_b (ww so)))) (X_X5_readBits m0 sh rr r ww so pl qo pn bm tg px fa hb n (F_X5_readBits x sc (y_b (ww so)))) := by
  generalize hE : F_X5_readBits x sc (y_b (ww so)) = res at hF ⊢
  refine aw_of (by decide +kernel) rfl (Nat.le_of_ble_eq_true rfl) ?_
  unfold F_X5_readBits at hE
  refine aw_iconst (v := 0) dX5_readBits_0 (by decide) ?_
  refine aw_istore_n (lv2 := [(2, _), (0, _), (1, _)]) dX5_readBits_1 (by decide) rfl ?_
  refine aw_iconst (v := 0) dX5_readBits_2 (by decide) ?_
  refine aw_istore_n (lv2 := [(3, _), (2, _), (0, _), (1, _)]) dX5_readBits_3 (by decide) rfl ?_
  refine aw_iconst (v := 0) dX5_readBits_4 (by decide) ?_
  refine aw_istore (lv2 := [(4, _), (3, _), (2, _), (0, _), (1, _)]) dX5_readBits_5 (by decide) rfl ?_
  exact aw_lv _ (List.forall_mem_cons.mpr ⟨rfl, (List.forall_mem_cons.mpr ⟨rfl, (List.forall_mem_cons.mpr ⟨rfl, (List.forall_mem_cons.mpr ⟨rfl, (List.forall_mem_cons.mpr ⟨rfl, fun _ h => absurd h List.not_mem_nil⟩)⟩)⟩)⟩)⟩) (lp_ind (Q_X5_readBits_7 m0 sh rr r ww so pl qo pn bm tg px fa hb n) (fun _ _ _ _ _ res hq hF => (hF hq.symm).elim) (fun k hk => b_X5_readBits_7 m0 sh rr r ww so pl qo pn bm tg px fa hb n hr hso  k hk) FU (0 : Int32) (0 : Int32) (0 : Int32) x sc _ hE hF)
def P_X8_high4 (m0 : Mnt) (sh : Nat → Nat) (rr : Nat → Ras) (ww : Nat → Row) (so : Nat) (pl : Pal) (qo : Qoi) (pn : Pnm) (bm : Bmp) (tg : Tga) (px : Pcx) (fa : A) (hb : aH) (n : Nat) (res : Out Src Int32) : Option Value → aH → Nat → Prop := fun r1 h2 n2 => ∃ (a : Int32) (s : Src), res = fok a s ∧ r1 = some (.int a) ∧ h2 = HC m0 sh rr ww so s pl qo pn bm tg px fa hb ∧ n = n2
def X_X8_high4 (m0 : Mnt) (sh : Nat → Nat) (rr : Nat → Ras) (ww : Nat → Row) (so : Nat) (pl : Pal) (qo : Qoi) (pn : Pnm) (bm : Bmp) (tg : Tga) (px : Pcx) (fa : A) (hb : aH) (n : Nat) (res : Out Src Int32) : String → aH → Nat → Prop := fun E h2 n2 => ∃ s : Src, res = fex E s ∧ h2 = HC m0 sh rr ww so s pl qo pn bm tg px fa hb ∧ n = n2
abbrev Q_X8_high4_4 (m0 : Mnt) (sh : Nat → Nat) (rr : Nat → Ras) (ww : Nat → Row) (so : Nat) (pl : Pal) (qo : Qoi) (pn : Pnm) (bm : Bmp) (tg : Tga) (px : Pcx) (fa : A) (hb : aH) (n : Nat) (k : Int32 → Int32 → Src → Out Src Int32) : Prop := ∀ (v1 : Int32) (v2 : Int32) (sc : Src) (res : Out Src Int32), k v1 v2 sc = res → res ≠ fno → AW (fun _ _ => True) mX8_high4 (rmD 4 1 6) 0 0 (P_X8_high4 m0 sh rr ww so pl qo pn bm tg px fa hb n res) (X_X8_high4 m0 sh rr ww so pl qo pn bm tg px fa hb n res) 0 0 4 [(0, .ref 16), (1, .int v1), (2, .int v2)] [] (HC m0 sh rr ww so sc pl qo pn bm tg px fa hb) n
def F_X8_high4_4 (sb : A) (k4 : Int32 → Int32 → Src → Out Src Int32) (v1 : Int32) (v2 : Int32) (sc : Src) : Out Src Int32 := if 4 ≤ v2 then (fok (v1 : Int32) sc) else (fon (F_X8_next sc sb) (fun z14 s14 => k4 ((v1 <<< ((8 : Int32) &&& 31)) ||| z14) (v2 + 1) s14) (fun E s14 => fex E s14))
set_option maxHeartbeats 1000000 in
set_option maxRecDepth 100000 in
theorem b_X8_high4_4 (m0 : Mnt) (sh : Nat → Nat) (rr : Nat → Ras) (ww : Nat → Row) (so : Nat) (pl : Pal) (qo : Qoi) (pn : Pnm) (bm : Bmp) (tg : Tga) (px : Pcx) (fa : A) (hb : aH) (n : Nat) (hso : isW so) (k4 : Int32 → Int32 → Src → Out Src Int32) (hk4 : Q_X8_high4_4 m0 sh rr ww so pl qo pn bm tg px fa hb n k4) : Q_X8_high4_4 m0 sh rr ww so pl qo pn bm tg px fa hb n (F_X8_high4_4 (y_b (ww so)) k4) := by
  intro v1 v2 sc res hE hF
  unfold F_X8_high4_4 at hE
  refine aw_iload_n dX8_high4_4 rfl ?_
  refine aw_iconst (v := 4) dX8_high4_5 (by decide) ?_
  refine aw_icmp_ge (tgt := 25) dX8_high4_6 (by decide) (fun c6 => ?_) (fun c6 => ?_)
  · replace hE := fit hE c6
    refine aw_iload_n dX8_high4_25 rfl ?_
    exact aw_iret dX8_high4_26 rfl (Nat.zero_le _) (Nat.zero_le _) (Nat.zero_le _) (Nat.zero_le _) ⟨_, _, hE.symm, rfl, rfl, rfl⟩
  · replace hE := fif hE c6
    refine aw_iload_n dX8_high4_9 rfl ?_
    refine aw_bipush (v := 8) dX8_high4_10 (by decide) ?_
    refine aw_ishl dX8_high4_12 ?_
    refine aw_aload_n dX8_high4_13 rfl ?_
    refine aw_callV dX8_high4_14 at_src cvX8_43 rfl (kF_X8_next m0 sh rr ww so sc pl qo pn bm tg px fa hb _ hso  (fon_ne hE hF)) rfl (Nat.le_of_ble_eq_true rfl) (by decide) (by decide) (by decide) (by decide) (fun E h2 n2 hx => aw_out rfl (by decide) (by decide) (by obtain ⟨s14, e14, rfl, rfl⟩ := hx; exact ⟨_, (fon_ex e14 hE).symm, rfl, rfl⟩)) (fun r14 h14 n14 hp14 => ?_)
    obtain ⟨z14, s14, e14, rfl, rfl, rfl⟩ := hp14
    replace hE := fon_ok e14 hE
    refine aw_ior dX8_high4_17 ?_
    refine aw_istore_n (lv2 := [(1, _), (0, _), (2, _)]) dX8_high4_18 (by decide) rfl ?_
    refine aw_iinc (v := (v2 + 1)) (lv2 := [(2, _), (1, _), (0, _)]) dX8_high4_19 rfl (incE (by decide)) (by decide) rfl ?_
    refine aw_goto (tgt := 4) dX8_high4_22 (by decide) ?_
    exact aw_lv _ (List.forall_mem_cons.mpr ⟨rfl, (List.forall_mem_cons.mpr ⟨rfl, (List.forall_mem_cons.mpr ⟨rfl, fun _ h => absurd h List.not_mem_nil⟩)⟩)⟩) (hk4 ((v1 <<< ((8 : Int32) &&& 31)) ||| z14) (v2 + 1) s14 _ hE hF)
def F_X8_high4 (sc : Src) (sb : A) : Out Src Int32 := lp (fun _ _ _ => fno) (F_X8_high4_4 sb) FU (0 : Int32) (0 : Int32) sc
set_option maxHeartbeats 1000000 in
set_option maxRecDepth 100000 in
theorem kF_X8_high4 (m0 : Mnt) (sh : Nat → Nat) (rr : Nat → Ras) (ww : Nat → Row) (so : Nat) (sc : Src) (pl : Pal) (qo : Qoi) (pn : Pnm) (bm : Bmp) (tg : Tga) (px : Pcx) (fa : A) (hb : aH) (n : Nat) (hso : isW so)  (hF : F_X8_high4 sc (y_b (ww so)) ≠ fno) : AM mX8_high4 4 [.ref 16] (HC m0 sh rr ww so sc pl qo pn bm tg px fa hb) n 1 6 0 0 (P_X8_high4 m0 sh rr ww so pl qo pn bm tg px fa hb n (F_X8_high4 sc (y_b (ww so)))) (X_X8_high4 m0 sh rr ww so pl qo pn bm tg px fa hb n (F_X8_high4 sc (y_b (ww so)))) := by
  generalize hE : F_X8_high4 sc (y_b (ww so)) = res at hF ⊢
  refine aw_of (by decide +kernel) rfl (Nat.le_of_ble_eq_true rfl) ?_
  unfold F_X8_high4 at hE
  refine aw_iconst (v := 0) dX8_high4_0 (by decide) ?_
  refine aw_istore_n (lv2 := [(1, _), (0, _)]) dX8_high4_1 (by decide) rfl ?_
  refine aw_iconst (v := 0) dX8_high4_2 (by decide) ?_
  refine aw_istore_n (lv2 := [(2, _), (1, _), (0, _)]) dX8_high4_3 (by decide) rfl ?_
  exact aw_lv _ (List.forall_mem_cons.mpr ⟨rfl, (List.forall_mem_cons.mpr ⟨rfl, (List.forall_mem_cons.mpr ⟨rfl, fun _ h => absurd h List.not_mem_nil⟩)⟩)⟩) (lp_ind (Q_X8_high4_4 m0 sh rr ww so pl qo pn bm tg px fa hb n) (fun _ _ _ res hq hF => (hF hq.symm).elim) (fun k hk => b_X8_high4_4 m0 sh rr ww so pl qo pn bm tg px fa hb n hso  k hk) FU (0 : Int32) (0 : Int32) sc _ hE hF)
def P_X6_readChoice (m0 : Mnt) (sh : Nat → Nat) (rr : Nat → Ras) (ww : Nat → Row) (so : Nat) (pl : Pal) (qo : Qoi) (pn : Pnm) (bm : Bmp) (tg : Tga) (px : Pcx) (fa : A) (hb : aH) (n : Nat) (res : Out Src Int32) : Option Value → aH → Nat → Prop := fun r1 h2 n2 => ∃ (a : Int32) (s : Src), res = fok a s ∧ r1 = some (.int a) ∧ h2 = HC m0 sh rr ww so s pl qo pn bm tg px fa hb ∧ n = n2
def X_X6_readChoice (m0 : Mnt) (sh : Nat → Nat) (rr : Nat → Ras) (ww : Nat → Row) (so : Nat) (pl : Pal) (qo : Qoi) (pn : Pnm) (bm : Bmp) (tg : Tga) (px : Pcx) (fa : A) (hb : aH) (n : Nat) (res : Out Src Int32) : String → aH → Nat → Prop := fun E h2 n2 => ∃ s : Src, res = fex E s ∧ h2 = HC m0 sh rr ww so s pl qo pn bm tg px fa hb ∧ n = n2
abbrev Q_X6_readChoice_29 (m0 : Mnt) (sh : Nat → Nat) (rr : Nat → Ras) (ww : Nat → Row) (so : Nat) (pl : Pal) (qo : Qoi) (pn : Pnm) (bm : Bmp) (tg : Tga) (px : Pcx) (fa : A) (hb : aH) (n : Nat) (k : Int32 → Src → Out Src Int32) : Prop := ∀ (v4 : Int32) (sc : Src) (res : Out Src Int32), k v4 sc = res → res ≠ fno → AW (fun _ _ => True) mX6_readChoice (rmD 4 1 6) 0 0 (P_X6_readChoice m0 sh rr ww so pl qo pn bm tg px fa hb n res) (X_X6_readChoice m0 sh rr ww so pl qo pn bm tg px fa hb n res) 0 0 29 [(4, .int v4)] [] (HC m0 sh rr ww so sc pl qo pn bm tg px fa hb) n
def F_X6_readChoice_29 (sb : A)  (v4 : Int32) (sc : Src) : Out Src Int32 := fok (v4 : Int32) sc
set_option maxHeartbeats 1000000 in
set_option maxRecDepth 100000 in
theorem b_X6_readChoice_29 (m0 : Mnt) (sh : Nat → Nat) (rr : Nat → Ras) (ww : Nat → Row) (so : Nat) (pl : Pal) (qo : Qoi) (pn : Pnm) (bm : Bmp) (tg : Tga) (px : Pcx) (fa : A) (hb : aH) (n : Nat) (hso : isW so)  : Q_X6_readChoice_29 m0 sh rr ww so pl qo pn bm tg px fa hb n (F_X6_readChoice_29 (y_b (ww so))) := by
  intro v4 sc res hE hF
  unfold F_X6_readChoice_29 at hE
  refine aw_iload dX6_readChoice_29 rfl ?_
  exact aw_iret dX6_readChoice_31 rfl (Nat.zero_le _) (Nat.zero_le _) (Nat.zero_le _) (Nat.zero_le _) ⟨_, _, hE.symm, rfl, rfl, rfl⟩
def F_X6_readChoice (a1 : Int32) (a2 : Int32) (sc : Src) (sb : A) : Out Src Int32 := fon (F_X8_next sc sb) (fun z6 s6 => if z6 = a1 then (F_X6_readChoice_29 sb z6 s6) else (if z6 = a2 then (F_X6_readChoice_29 sb z6 s6) else (fon (F_X8_refuse 2 (sc_pos sc) s6) (fun _ _ => fno) (fun E s26 => fex E s26)))) (fun E s6 => fex E s6)
set_option maxHeartbeats 1000000 in
set_option maxRecDepth 100000 in
theorem kF_X6_readChoice (m0 : Mnt) (sh : Nat → Nat) (rr : Nat → Ras) (ww : Nat → Row) (so : Nat) (sc : Src) (pl : Pal) (qo : Qoi) (pn : Pnm) (bm : Bmp) (tg : Tga) (px : Pcx) (fa : A) (hb : aH) (n : Nat) (hso : isW so) (a1 : Int32) (a2 : Int32) (hF : F_X6_readChoice a1 a2 sc (y_b (ww so)) ≠ fno) : AM mX6_readChoice 4 [.ref 16, .int a1, .int a2] (HC m0 sh rr ww so sc pl qo pn bm tg px fa hb) n 1 6 0 0 (P_X6_readChoice m0 sh rr ww so pl qo pn bm tg px fa hb n (F_X6_readChoice a1 a2 sc (y_b (ww so)))) (X_X6_readChoice m0 sh rr ww so pl qo pn bm tg px fa hb n (F_X6_readChoice a1 a2 sc (y_b (ww so)))) := by
  generalize hE : F_X6_readChoice a1 a2 sc (y_b (ww so)) = res at hF ⊢
  refine aw_of (by decide +kernel) rfl (Nat.le_of_ble_eq_true rfl) ?_
  unfold F_X6_readChoice at hE
  refine aw_aload_n dX6_readChoice_0 rfl ?_
  refine aw_getf (v := .int (sc_pos sc)) dX6_readChoice_1 flX6_25_7 at_src rfl ?_
  refine aw_istore_n (lv2 := [(3, _), (0, _), (1, _), (2, _)]) dX6_readChoice_4 (by decide) rfl ?_
  refine aw_aload_n dX6_readChoice_5 rfl ?_
  refine aw_callV dX6_readChoice_6 at_src cvX6_63 rfl (kF_X8_next m0 sh rr ww so sc pl qo pn bm tg px fa hb _ hso  (fon_ne hE hF)) rfl (Nat.le_of_ble_eq_true rfl) (by decide) (by decide) (by decide) (by decide) (fun E h2 n2 hx => aw_out rfl (by decide) (by decide) (by obtain ⟨s6, e6, rfl, rfl⟩ := hx; exact ⟨_, (fon_ex e6 hE).symm, rfl, rfl⟩)) (fun r6 h6 n6 hp6 => ?_)
  obtain ⟨z6, s6, e6, rfl, rfl, rfl⟩ := hp6
  replace hE := fon_ok e6 hE
  refine aw_istore (lv2 := [(4, _), (3, _), (0, _), (1, _), (2, _)]) dX6_readChoice_9 (by decide) rfl ?_
  refine aw_iload dX6_readChoice_11 rfl ?_
  refine aw_iload_n dX6_readChoice_13 rfl ?_
  refine aw_icmp_eq (tgt := 29) dX6_readChoice_14 (by decide) (fun c14 => ?_) (fun c14 => ?_)
  · replace hE := fit hE c14
    exact aw_lv _ (List.forall_mem_cons.mpr ⟨rfl, fun _ h => absurd h List.not_mem_nil⟩) (b_X6_readChoice_29 m0 sh rr ww so pl qo pn bm tg px fa hb n hso  z6 s6 _ hE hF)
  · replace hE := fif hE c14
    refine aw_iload dX6_readChoice_17 rfl ?_
    refine aw_iload_n dX6_readChoice_19 rfl ?_
    refine aw_icmp_eq (tgt := 29) dX6_readChoice_20 (by decide) (fun c20 => ?_) (fun c20 => ?_)
    · replace hE := fit hE c20
      exact aw_lv _ (List.forall_mem_cons.mpr ⟨rfl, fun _ h => absurd h List.not_mem_nil⟩) (b_X6_readChoice_29 m0 sh rr ww so pl qo pn bm tg px fa hb n hso  z6 s6 _ hE hF)
    · replace hE := fif hE c20
      refine aw_aload_n dX6_readChoice_23 rfl ?_
      refine aw_iconst (v := 2) dX6_readChoice_24 (by decide) ?_
      refine aw_iload_n dX6_readChoice_25 rfl ?_
      refine aw_callV dX6_readChoice_26 at_src cvX6_59 rfl (kF_X8_refuse m0 sh rr ww so s6 pl qo pn bm tg px fa hb _  2 (sc_pos sc) (fon_ne hE hF)) rfl (Nat.le_of_ble_eq_true rfl) (by decide) (by decide) (by decide) (by decide) (fun E h2 n2 hx => aw_out rfl (by decide) (by decide) (by obtain ⟨s26, e26, rfl, rfl⟩ := hx; exact ⟨_, (fon_ex e26 hE).symm, rfl, rfl⟩)) (fun r26 h26 n26 hp26 => ?_)
      obtain ⟨z26, s26, e26, rfl, rfl, rfl⟩ := hp26
      exact (hF (fon_ok e26 hE).symm).elim
def P_X6_moved (m0 : Mnt) (sh : Nat → Nat) (rr : Nat → Ras) (ww : Nat → Row) (so : Nat) (sc : Src) (pl : Pal) (qo : Qoi) (pn : Pnm) (bm : Bmp) (tg : Tga) (px : Pcx) (fa : A) (hb : aH) (n : Nat) (res : Out Unit Int32) : Option Value → aH → Nat → Prop := fun r1 h2 n2 => ∃ (a : Int32) (s : Unit), res = fok a s ∧ r1 = some (.int a) ∧ h2 = HC m0 sh rr ww so sc pl qo pn bm tg px fa hb ∧ n = n2
def F_X6_moved (a1 : Int32) (a2 : Int32) (a3 : Int32) (qo : Qoi) : Out Unit Int32 := fok ((F_X10_pixelOf (((F_X10_redOf (qo_last qo)) + a1) &&& 255) (((F_X10_greenOf (qo_last qo)) + a2) &&& 255) (((F_X10_blueOf (qo_last qo)) + a3) &&& 255) (F_X10_alphaOf (qo_last qo))) : Int32) ()
set_option maxHeartbeats 1000000 in
set_option maxRecDepth 100000 in
theorem kF_X6_moved (m0 : Mnt) (sh : Nat → Nat) (rr : Nat → Ras) (ww : Nat → Row) (so : Nat) (sc : Src) (pl : Pal) (qo : Qoi) (pn : Pnm) (bm : Bmp) (tg : Tga) (px : Pcx) (fa : A) (hb : aH) (n : Nat)  (a1 : Int32) (a2 : Int32) (a3 : Int32) (hF : F_X6_moved a1 a2 a3 qo ≠ fno) : AM mX6_moved 2 [.ref 21, .int a1, .int a2, .int a3] (HC m0 sh rr ww so sc pl qo pn bm tg px fa hb) n 0 0 0 0 (P_X6_moved m0 sh rr ww so sc pl qo pn bm tg px fa hb n (F_X6_moved a1 a2 a3 qo)) (fun _ _ _ => False) := by
  generalize hE : F_X6_moved a1 a2 a3 qo = res at hF ⊢
  refine aw_of (by decide +kernel) rfl (Nat.le_of_ble_eq_true rfl) ?_
  unfold F_X6_moved at hE
  refine aw_aload_n dX6_moved_0 rfl ?_
  refine aw_getf (v := .int (qo_last qo)) dX6_moved_1 flX6_78_5 at_qoi rfl ?_
  refine aw_callSN dX6_moved_4  csX6_99 rfl (kF_X10_redOf _ _ (qo_last qo)) rfl (Nat.le_of_ble_eq_true rfl) (by decide) (by decide) (by decide) (by decide)  (fun r4 h4 n4 hp4 => ?_)
  obtain ⟨rfl, rfl, rfl⟩ := hp4
  refine aw_iload_n dX6_moved_7 rfl ?_
  refine aw_iadd dX6_moved_8 ?_
  refine aw_sipush (v := 255) dX6_moved_9 (by decide) ?_
  refine aw_iand dX6_moved_12 ?_
  refine aw_aload_n dX6_moved_13 rfl ?_
  refine aw_getf (v := .int (qo_last qo)) dX6_moved_14 flX6_78_5 at_qoi rfl ?_
  refine aw_callSN dX6_moved_17  csX6_102 rfl (kF_X10_greenOf _ _ (qo_last qo)) rfl (Nat.le_of_ble_eq_true rfl) (by decide) (by decide) (by decide) (by decide)  (fun r17 h17 n17 hp17 => ?_)
  obtain ⟨rfl, rfl, rfl⟩ := hp17
  refine aw_iload_n dX6_moved_20 rfl ?_
  refine aw_iadd dX6_moved_21 ?_
  refine aw_sipush (v := 255) dX6_moved_22 (by decide) ?_
  refine aw_iand dX6_moved_25 ?_
  refine aw_aload_n dX6_moved_26 rfl ?_
  refine aw_getf (v := .int (qo_last qo)) dX6_moved_27 flX6_78_5 at_qoi rfl ?_
  refine aw_callSN dX6_moved_30  csX6_105 rfl (kF_X10_blueOf _ _ (qo_last qo)) rfl (Nat.le_of_ble_eq_true rfl) (by decide) (by decide) (by decide) (by decide)  (fun r30 h30 n30 hp30 => ?_)
  obtain ⟨rfl, rfl, rfl⟩ := hp30
  refine aw_iload_n dX6_moved_33 rfl ?_
  refine aw_iadd dX6_moved_34 ?_
  refine aw_sipush (v := 255) dX6_moved_35 (by decide) ?_
  refine aw_iand dX6_moved_38 ?_
  refine aw_aload_n dX6_moved_39 rfl ?_
  refine aw_getf (v := .int (qo_last qo)) dX6_moved_40 flX6_78_5 at_qoi rfl ?_
  refine aw_callSN dX6_moved_43  csX6_91 rfl (kF_X10_alphaOf _ _ (qo_last qo)) rfl (Nat.le_of_ble_eq_true rfl) (by decide) (by decide) (by decide) (by decide)  (fun r43 h43 n43 hp43 => ?_)
  obtain ⟨rfl, rfl, rfl⟩ := hp43
  refine aw_callSN dX6_moved_46  csX6_95 rfl (kF_X10_pixelOf _ _ (((F_X10_redOf (qo_last qo)) + a1) &&& 255) (((F_X10_greenOf (qo_last qo)) + a2) &&& 255) (((F_X10_blueOf (qo_last qo)) + a3) &&& 255) (F_X10_alphaOf (qo_last qo))) rfl (Nat.le_of_ble_eq_true rfl) (by decide) (by decide) (by decide) (by decide)  (fun r46 h46 n46 hp46 => ?_)
  obtain ⟨rfl, rfl, rfl⟩ := hp46
  exact aw_iret dX6_moved_49 rfl (Nat.zero_le _) (Nat.zero_le _) (Nat.zero_le _) (Nat.zero_le _) ⟨_, _, hE.symm, rfl, rfl, rfl⟩
def P_X9_readTypes (m0 : Mnt) (sh : Nat → Nat) (rr : Nat → Ras) (ww : Nat → Row) (so : Nat) (pl : Pal) (qo : Qoi) (pn : Pnm) (bm : Bmp) (px : Pcx) (fa : A) (hb : aH) (n : Nat) (res : Out (Src × Tga) Unit) : Option Value → aH → Nat → Prop := fun r1 h2 n2 => ∃ (a : Unit) (s : (Src × Tga)), res = fok a s ∧ r1 = none ∧ h2 = HC m0 sh rr ww so s.1 pl qo pn bm s.2 px fa hb ∧ n = n2
def X_X9_readTypes (m0 : Mnt) (sh : Nat → Nat) (rr : Nat → Ras) (ww : Nat → Row) (so : Nat) (pl : Pal) (qo : Qoi) (pn : Pnm) (bm : Bmp) (px : Pcx) (fa : A) (hb : aH) (n : Nat) (res : Out (Src × Tga) Unit) : String → aH → Nat → Prop := fun E h2 n2 => ∃ s : (Src × Tga), res = fex E s ∧ h2 = HC m0 sh rr ww so s.1 pl qo pn bm s.2 px fa hb ∧ n = n2
abbrev Q_X9_readTypes_59 (m0 : Mnt) (sh : Nat → Nat) (rr : Nat → Ras) (ww : Nat → Row) (so : Nat) (pl : Pal) (qo : Qoi) (pn : Pnm) (bm : Bmp) (px : Pcx) (fa : A) (hb : aH) (n : Nat) (k : Int32 → Int32 → Int32 → Src → Tga → Out (Src × Tga) Unit) : Prop := ∀ (v2 : Int32) (v3 : Int32) (t0 : Int32) (sc : Src) (tg : Tga) (res : Out (Src × Tga) Unit), k v2 v3 t0 sc tg = res → res ≠ fno → AW (fun _ _ => True) mX9_readTypes (rmD 4 1 6) 0 0 (P_X9_readTypes m0 sh rr ww so pl qo pn bm px fa hb n res) (X_X9_readTypes m0 sh rr ww so pl qo pn bm px fa hb n res) 0 0 59 [(0, .ref 26), (1, .ref 16), (2, .int v2), (3, .int v3)] [.int t0, .ref 26] (HC m0 sh rr ww so sc pl qo pn bm tg px fa hb) n
abbrev Q_X9_readTypes_95 (m0 : Mnt) (sh : Nat → Nat) (rr : Nat → Ras) (ww : Nat → Row) (so : Nat) (pl : Pal) (qo : Qoi) (pn : Pnm) (bm : Bmp) (px : Pcx) (fa : A) (hb : aH) (n : Nat) (k : Int32 → Src → Tga → Out (Src × Tga) Unit) : Prop := ∀ (v2 : Int32) (sc : Src) (tg : Tga) (res : Out (Src × Tga) Unit), k v2 sc tg = res → res ≠ fno → AW (fun _ _ => True) mX9_readTypes (rmD 4 1 6) 0 0 (P_X9_readTypes m0 sh rr ww so pl qo pn bm px fa hb n res) (X_X9_readTypes m0 sh rr ww so pl qo pn bm px fa hb n res) 0 0 95 [(1, .ref 16), (2, .int v2)] [] (HC m0 sh rr ww so sc pl qo pn bm tg px fa hb) n
def F_X9_readTypes_95 (sb : A)  (v2 : Int32) (sc : Src) (tg : Tga) : Out (Src × Tga) Unit := fon (F_X8_refuse 2 v2 sc) (fun _ _ => fno) (fun E s98 => fex E (s98, tg))
set_option maxHeartbeats 1000000 in
set_option maxRecDepth 100000 in
theorem b_X9_readTypes_95 (m0 : Mnt) (sh : Nat → Nat) (rr : Nat → Ras) (ww : Nat → Row) (so : Nat) (pl : Pal) (qo : Qoi) (pn : Pnm) (bm : Bmp) (px : Pcx) (fa : A) (hb : aH) (n : Nat) (hso : isW so)  : Q_X9_readTypes_95 m0 sh rr ww so pl qo pn bm px fa hb n (F_X9_readTypes_95 (y_b (ww so))) := by
  intro v2 sc tg res hE hF
  unfold F_X9_readTypes_95 at hE
  refine aw_aload_n dX9_readTypes_95 rfl ?_
  refine aw_iconst (v := 2) dX9_readTypes_96 (by decide) ?_
  refine aw_iload_n dX9_readTypes_97 rfl ?_
  refine aw_callV dX9_readTypes_98 at_src cvX9_80 rfl (kF_X8_refuse m0 sh rr ww so sc pl qo pn bm tg px fa hb _  2 v2 (fon_ne hE hF)) rfl (Nat.le_of_ble_eq_true rfl) (by decide) (by decide) (by decide) (by decide) (fun E h2 n2 hx => aw_out rfl (by decide) (by decide) (by obtain ⟨s98, e98, rfl, rfl⟩ := hx; exact ⟨_, (fon_ex e98 hE).symm, rfl, rfl⟩)) (fun r98 h98 n98 hp98 => ?_)
  obtain ⟨z98, s98, e98, rfl, rfl, rfl⟩ := hp98
  exact (hF (fon_ok e98 hE).symm).elim
def F_X9_readTypes_59 (sb : A)  (v2 : Int32) (v3 : Int32) (t0 : Int32) (sc : Src) (tg : Tga) : Out (Src × Tga) Unit := if isB t0 then (if v3 < 1 then (F_X9_readTypes_95 sb v2 sc ((tg_f1 tg), (tg_f2 tg), (tg_f3 tg), (tg_map tg), (tg_type tg), (tg_fe tg), (tg_many tg), (tg_deep tg), (tg_bits tg), (tg_flags tg), (tg_ab tg), t0, (tg_packets tg), (tg_left tg), (tg_like tg), (tg_ent tg))) else (if 3 < v3 then (F_X9_readTypes_95 sb v2 sc ((tg_f1 tg), (tg_f2 tg), (tg_f3 tg), (tg_map tg), (tg_type tg), (tg_fe tg), (tg_many tg), (tg_deep tg), (tg_bits tg), (tg_flags tg), (tg_ab tg), t0, (tg_packets tg), (tg_left tg), (tg_like tg), (tg_ent tg))) else (if 11 < (tg_type tg) then (F_X9_readTypes_95 sb v2 sc ((tg_f1 tg), (tg_f2 tg), (tg_f3 tg), (tg_map tg), (tg_type tg), (tg_fe tg), (tg_many tg), (tg_deep tg), (tg_bits tg), (tg_flags tg), (tg_ab tg), t0, (tg_packets tg), (tg_left tg), (tg_like tg), (tg_ent tg))) else (if t0 = 0 then (fok () (sc, ((tg_f1 tg), (tg_f2 tg), (tg_f3 tg), (tg_map tg), (tg_type tg), (tg_fe tg), (tg_many tg), (tg_deep tg), (tg_bits tg), (tg_flags tg), (tg_ab tg), t0, (tg_packets tg), (tg_left tg), (tg_like tg), (tg_ent tg)))) else (if (tg_map tg) = 0 then (F_X9_readTypes_95 sb v2 sc ((tg_f1 tg), (tg_f2 tg), (tg_f3 tg), (tg_map tg), (tg_type tg), (tg_fe tg), (tg_many tg), (tg_deep tg), (tg_bits tg), (tg_flags tg), (tg_ab tg), t0, (tg_packets tg), (tg_left tg), (tg_like tg), (tg_ent tg))) else (fok () (sc, ((tg_f1 tg), (tg_f2 tg), (tg_f3 tg), (tg_map tg), (tg_type tg), (tg_fe tg), (tg_many tg), (tg_deep tg), (tg_bits tg), (tg_flags tg), (tg_ab tg), t0, (tg_packets tg), (tg_left tg), (tg_like tg), (tg_ent tg))))))))) else fno
set_option maxHeartbeats 1000000 in
set_option maxRecDepth 100000 in
theorem b_X9_readTypes_59 (m0 : Mnt) (sh : Nat → Nat) (rr : Nat → Ras) (ww : Nat → Row) (so : Nat) (pl : Pal) (qo : Qoi) (pn : Pnm) (bm : Bmp) (px : Pcx) (fa : A) (hb : aH) (n : Nat) (hso : isW so)  : Q_X9_readTypes_59 m0 sh rr ww so pl qo pn bm px fa hb n (F_X9_readTypes_59 (y_b (ww so))) := by
  intro v2 v3 t0 sc tg res hE hF
  unfold F_X9_readTypes_59 at hE
  obtain ⟨g59, hE⟩ := fgd hE hF
  refine aw_putf dX9_readTypes_59 ptX9_84_8 at_tga (Nat.le_of_ble_eq_true rfl) (vokB g59) ?_
  refine aw_eqh (h2 := HC m0 sh rr ww so sc pl qo pn bm ((tg_f1 tg), (tg_f2 tg), (tg_f3 tg), (tg_map tg), (tg_type tg), (tg_fe tg), (tg_many tg), (tg_deep tg), (tg_bits tg), (tg_flags tg), (tg_ab tg), t0, (tg_packets tg), (tg_left tg), (tg_like tg), (tg_ent tg)) px fa hb) up_tga ?_
  refine aw_iload_n dX9_readTypes_62 rfl ?_
  refine aw_iconst (v := 1) dX9_readTypes_63 (by decide) ?_
  refine aw_icmp_lt (tgt := 95) dX9_readTypes_64 (by decide) (fun c64 => ?_) (fun c64 => ?_)
  · replace hE := fit hE c64
    exact aw_lv _ (List.forall_mem_cons.mpr ⟨rfl, (List.forall_mem_cons.mpr ⟨rfl, fun _ h => absurd h List.not_mem_nil⟩)⟩) (b_X9_readTypes_95 m0 sh rr ww so pl qo pn bm px fa hb n hso  v2 sc ((tg_f1 tg), (tg_f2 tg), (tg_f3 tg), (tg_map tg), (tg_type tg), (tg_fe tg), (tg_many tg), (tg_deep tg), (tg_bits tg), (tg_flags tg), (tg_ab tg), t0, (tg_packets tg), (tg_left tg), (tg_like tg), (tg_ent tg)) _ hE hF)
  · replace hE := fif hE c64
    refine aw_iload_n dX9_readTypes_67 rfl ?_
    refine aw_iconst (v := 3) dX9_readTypes_68 (by decide) ?_
    refine aw_icmp_gt (tgt := 95) dX9_readTypes_69 (by decide) (fun c69 => ?_) (fun c69 => ?_)
    · replace hE := fit hE c69
      exact aw_lv _ (List.forall_mem_cons.mpr ⟨rfl, (List.forall_mem_cons.mpr ⟨rfl, fun _ h => absurd h List.not_mem_nil⟩)⟩) (b_X9_readTypes_95 m0 sh rr ww so pl qo pn bm px fa hb n hso  v2 sc ((tg_f1 tg), (tg_f2 tg), (tg_f3 tg), (tg_map tg), (tg_type tg), (tg_fe tg), (tg_many tg), (tg_deep tg), (tg_bits tg), (tg_flags tg), (tg_ab tg), t0, (tg_packets tg), (tg_left tg), (tg_like tg), (tg_ent tg)) _ hE hF)
    · replace hE := fif hE c69
      refine aw_aload_n dX9_readTypes_72 rfl ?_
      refine aw_getf (v := .int (tg_type tg)) dX9_readTypes_73 flX9_55_8 at_tga rfl ?_
      refine aw_bipush (v := 11) dX9_readTypes_76 (by decide) ?_
      refine aw_icmp_gt (tgt := 95) dX9_readTypes_78 (by decide) (fun c78 => ?_) (fun c78 => ?_)
      · replace hE := fit hE c78
        exact aw_lv _ (List.forall_mem_cons.mpr ⟨rfl, (List.forall_mem_cons.mpr ⟨rfl, fun _ h => absurd h List.not_mem_nil⟩)⟩) (b_X9_readTypes_95 m0 sh rr ww so pl qo pn bm px fa hb n hso  v2 sc ((tg_f1 tg), (tg_f2 tg), (tg_f3 tg), (tg_map tg), (tg_type tg), (tg_fe tg), (tg_many tg), (tg_deep tg), (tg_bits tg), (tg_flags tg), (tg_ab tg), t0, (tg_packets tg), (tg_left tg), (tg_like tg), (tg_ent tg)) _ hE hF)
      · replace hE := fif hE c78
        refine aw_aload_n dX9_readTypes_81 rfl ?_
        refine aw_getf (v := .int t0) dX9_readTypes_82 flX9_84_8 at_tga rfl ?_
        refine aw_if_eq (tgt := 101) dX9_readTypes_85 (by decide) (fun c85 => ?_) (fun c85 => ?_)
        · replace hE := fit hE c85
          exact aw_vret dX9_readTypes_101 rfl (Nat.zero_le _) (Nat.zero_le _) (Nat.zero_le _) (Nat.zero_le _) ⟨_, _, hE.symm, rfl, rfl, rfl⟩
        · replace hE := fif hE c85
          refine aw_aload_n dX9_readTypes_88 rfl ?_
          refine aw_getf (v := .int (tg_map tg)) dX9_readTypes_89 flX9_77_8 at_tga rfl ?_
          refine aw_if_ne (tgt := 101) dX9_readTypes_92 (by decide) (fun c92 => ?_) (fun c92 => ?_)
          · replace hE := fif hE c92
            exact aw_vret dX9_readTypes_101 rfl (Nat.zero_le _) (Nat.zero_le _) (Nat.zero_le _) (Nat.zero_le _) ⟨_, _, hE.symm, rfl, rfl, rfl⟩
          · replace hE := fit hE c92
            exact aw_lv _ (List.forall_mem_cons.mpr ⟨rfl, (List.forall_mem_cons.mpr ⟨rfl, fun _ h => absurd h List.not_mem_nil⟩)⟩) (b_X9_readTypes_95 m0 sh rr ww so pl qo pn bm px fa hb n hso  v2 sc ((tg_f1 tg), (tg_f2 tg), (tg_f3 tg), (tg_map tg), (tg_type tg), (tg_fe tg), (tg_many tg), (tg_deep tg), (tg_bits tg), (tg_flags tg), (tg_ab tg), t0, (tg_packets tg), (tg_left tg), (tg_like tg), (tg_ent tg)) _ hE hF)
def F_X9_readTypes (sc : Src) (sb : A) (tg : Tga) : Out (Src × Tga) Unit := fon (F_X8_next sc sb) (fun z7 s7 => if z7 ≤ 1 then (fon (F_X8_next s7 sb) (fun z34 s34 => if (z34 &&& 7) = 1 then (F_X9_readTypes_59 sb (sc_pos s7) (z34 &&& 7) (1 : Int32) s34 ((tg_f1 tg), (tg_f2 tg), (tg_f3 tg), z7, z34, (tg_fe tg), (tg_many tg), (tg_deep tg), (tg_bits tg), (tg_flags tg), (tg_ab tg), (tg_idx tg), (tg_packets tg), (tg_left tg), (tg_like tg), (tg_ent tg))) else (F_X9_readTypes_59 sb (sc_pos s7) (z34 &&& 7) (0 : Int32) s34 ((tg_f1 tg), (tg_f2 tg), (tg_f3 tg), z7, z34, (tg_fe tg), (tg_many tg), (tg_deep tg), (tg_bits tg), (tg_flags tg), (tg_ab tg), (tg_idx tg), (tg_packets tg), (tg_left tg), (tg_like tg), (tg_ent tg)))) (fun E s34 => fex E (s34, ((tg_f1 tg), (tg_f2 tg), (tg_f3 tg), z7, (tg_type tg), (tg_fe tg), (tg_many tg), (tg_deep tg), (tg_bits tg), (tg_flags tg), (tg_ab tg), (tg_idx tg), (tg_packets tg), (tg_left tg), (tg_like tg), (tg_ent tg))))) else (fon (F_X8_refuse 2 (sc_pos sc) s7) (fun _ _ => fno) (fun E s24 => fex E (s24, ((tg_f1 tg), (tg_f2 tg), (tg_f3 tg), z7, (tg_type tg), (tg_fe tg), (tg_many tg), (tg_deep tg), (tg_bits tg), (tg_flags tg), (tg_ab tg), (tg_idx tg), (tg_packets tg), (tg_left tg), (tg_like tg), (tg_ent tg)))))) (fun E s7 => fex E (s7, tg))
set_option maxHeartbeats 1000000 in
set_option maxRecDepth 100000 in
theorem kF_X9_readTypes (m0 : Mnt) (sh : Nat → Nat) (rr : Nat → Ras) (ww : Nat → Row) (so : Nat) (sc : Src) (pl : Pal) (qo : Qoi) (pn : Pnm) (bm : Bmp) (tg : Tga) (px : Pcx) (fa : A) (hb : aH) (n : Nat) (hso : isW so)  (hF : F_X9_readTypes sc (y_b (ww so)) tg ≠ fno) : AM mX9_readTypes 4 [.ref 26, .ref 16] (HC m0 sh rr ww so sc pl qo pn bm tg px fa hb) n 1 6 0 0 (P_X9_readTypes m0 sh rr ww so pl qo pn bm px fa hb n (F_X9_readTypes sc (y_b (ww so)) tg)) (X_X9_readTypes m0 sh rr ww so pl qo pn bm px fa hb n (F_X9_readTypes sc (y_b (ww so)) tg)) := by
  generalize hE : F_X9_readTypes sc (y_b (ww so)) tg = res at hF ⊢
  refine aw_of (by decide +kernel) rfl (Nat.le_of_ble_eq_true rfl) ?_
  unfold F_X9_readTypes at hE
  refine aw_aload_n dX9_readTypes_0 rfl ?_
  refine aw_getf (v := .int (sc_pos sc)) dX9_readTypes_1 flX9_74_7 at_src rfl ?_
  refine aw_istore_n (lv2 := [(2, _), (0, _), (1, _)]) dX9_readTypes_4 (by decide) rfl ?_
  refine aw_aload_n dX9_readTypes_5 rfl ?_
  refine aw_aload_n dX9_readTypes_6 rfl ?_
  refine aw_callV dX9_readTypes_7 at_src cvX9_19 rfl (kF_X8_next m0 sh rr ww so sc pl qo pn bm tg px fa hb _ hso  (fon_ne hE hF)) rfl (Nat.le_of_ble_eq_true rfl) (by decide) (by decide) (by decide) (by decide) (fun E h2 n2 hx => aw_out rfl (by decide) (by decide) (by obtain ⟨s7, e7, rfl, rfl⟩ := hx; exact ⟨_, (fon_ex e7 hE).symm, rfl, rfl⟩)) (fun r7 h7 n7 hp7 => ?_)
  obtain ⟨z7, s7, e7, rfl, rfl, rfl⟩ := hp7
  replace hE := fon_ok e7 hE
  refine aw_putf dX9_readTypes_10 ptX9_77_8 at_tga (Nat.le_of_ble_eq_true rfl) ⟨rfl, rfl⟩ ?_
  refine aw_eqh (h2 := HC m0 sh rr ww so s7 pl qo pn bm ((tg_f1 tg), (tg_f2 tg), (tg_f3 tg), z7, (tg_type tg), (tg_fe tg), (tg_many tg), (tg_deep tg), (tg_bits tg), (tg_flags tg), (tg_ab tg), (tg_idx tg), (tg_packets tg), (tg_left tg), (tg_like tg), (tg_ent tg)) px fa hb) up_tga ?_
  refine aw_aload_n dX9_readTypes_13 rfl ?_
  refine aw_getf (v := .int z7) dX9_readTypes_14 flX9_77_8 at_tga rfl ?_
  refine aw_iconst (v := 1) dX9_readTypes_17 (by decide) ?_
  refine aw_icmp_le (tgt := 27) dX9_readTypes_18 (by decide) (fun c18 => ?_) (fun c18 => ?_)
  · replace hE := fit hE c18
    refine aw_aload_n dX9_readTypes_27 rfl ?_
    refine aw_getf (v := .int (sc_pos s7)) dX9_readTypes_28 flX9_74_7 at_src rfl ?_
    refine aw_istore_n (lv2 := [(2, _), (0, _), (1, _)]) dX9_readTypes_31 (by decide) rfl ?_
    refine aw_aload_n dX9_readTypes_32 rfl ?_
    refine aw_aload_n dX9_readTypes_33 rfl ?_
    refine aw_callV dX9_readTypes_34 at_src cvX9_19 rfl (kF_X8_next m0 sh rr ww so s7 pl qo pn bm ((tg_f1 tg), (tg_f2 tg), (tg_f3 tg), z7, (tg_type tg), (tg_fe tg), (tg_many tg), (tg_deep tg), (tg_bits tg), (tg_flags tg), (tg_ab tg), (tg_idx tg), (tg_packets tg), (tg_left tg), (tg_like tg), (tg_ent tg)) px fa hb _ hso  (fon_ne hE hF)) rfl (Nat.le_of_ble_eq_true rfl) (by decide) (by decide) (by decide) (by decide) (fun E h2 n2 hx => aw_out rfl (by decide) (by decide) (by obtain ⟨s34, e34, rfl, rfl⟩ := hx; exact ⟨_, (fon_ex e34 hE).symm, rfl, rfl⟩)) (fun r34 h34 n34 hp34 => ?_)
    obtain ⟨z34, s34, e34, rfl, rfl, rfl⟩ := hp34
    replace hE := fon_ok e34 hE
    refine aw_putf dX9_readTypes_37 ptX9_55_8 at_tga (Nat.le_of_ble_eq_true rfl) ⟨rfl, rfl⟩ ?_
    refine aw_eqh (h2 := HC m0 sh rr ww so s34 pl qo pn bm ((tg_f1 tg), (tg_f2 tg), (tg_f3 tg), z7, z34, (tg_fe tg), (tg_many tg), (tg_deep tg), (tg_bits tg), (tg_flags tg), (tg_ab tg), (tg_idx tg), (tg_packets tg), (tg_left tg), (tg_like tg), (tg_ent tg)) px fa hb) up_tga ?_
    refine aw_aload_n dX9_readTypes_40 rfl ?_
    refine aw_getf (v := .int z34) dX9_readTypes_41 flX9_55_8 at_tga rfl ?_
    refine aw_bipush (v := 7) dX9_readTypes_44 (by decide) ?_
    refine aw_iand dX9_readTypes_46 ?_
    refine aw_istore_n (lv2 := [(3, _), (2, _), (0, _), (1, _)]) dX9_readTypes_47 (by decide) rfl ?_
    refine aw_aload_n dX9_readTypes_48 rfl ?_
    refine aw_iload_n dX9_readTypes_49 rfl ?_
    refine aw_iconst (v := 1) dX9_readTypes_50 (by decide) ?_
    refine aw_icmp_ne (tgt := 58) dX9_readTypes_51 (by decide) (fun c51 => ?_) (fun c51 => ?_)
    · replace hE := fif hE c51
      refine aw_iconst (v := 0) dX9_readTypes_58 (by decide) ?_
      exact aw_lv _ (List.forall_mem_cons.mpr ⟨rfl, (List.forall_mem_cons.mpr ⟨rfl, (List.forall_mem_cons.mpr ⟨rfl, (List.forall_mem_cons.mpr ⟨rfl, fun _ h => absurd h List.not_mem_nil⟩)⟩)⟩)⟩) (b_X9_readTypes_59 m0 sh rr ww so pl qo pn bm px fa hb n hso  (sc_pos s7) (z34 &&& 7) (0 : Int32) s34 ((tg_f1 tg), (tg_f2 tg), (tg_f3 tg), z7, z34, (tg_fe tg), (tg_many tg), (tg_deep tg), (tg_bits tg), (tg_flags tg), (tg_ab tg), (tg_idx tg), (tg_packets tg), (tg_left tg), (tg_like tg), (tg_ent tg)) _ hE hF)
    · replace hE := fit hE c51
      refine aw_iconst (v := 1) dX9_readTypes_54 (by decide) ?_
      refine aw_goto (tgt := 59) dX9_readTypes_55 (by decide) ?_
      exact aw_lv _ (List.forall_mem_cons.mpr ⟨rfl, (List.forall_mem_cons.mpr ⟨rfl, (List.forall_mem_cons.mpr ⟨rfl, (List.forall_mem_cons.mpr ⟨rfl, fun _ h => absurd h List.not_mem_nil⟩)⟩)⟩)⟩) (b_X9_readTypes_59 m0 sh rr ww so pl qo pn bm px fa hb n hso  (sc_pos s7) (z34 &&& 7) (1 : Int32) s34 ((tg_f1 tg), (tg_f2 tg), (tg_f3 tg), z7, z34, (tg_fe tg), (tg_many tg), (tg_deep tg), (tg_bits tg), (tg_flags tg), (tg_ab tg), (tg_idx tg), (tg_packets tg), (tg_left tg), (tg_like tg), (tg_ent tg)) _ hE hF)
  · replace hE := fif hE c18
    refine aw_aload_n dX9_readTypes_21 rfl ?_
    refine aw_iconst (v := 2) dX9_readTypes_22 (by decide) ?_
    refine aw_iload_n dX9_readTypes_23 rfl ?_
    refine aw_callV dX9_readTypes_24 at_src cvX9_80 rfl (kF_X8_refuse m0 sh rr ww so s7 pl qo pn bm ((tg_f1 tg), (tg_f2 tg), (tg_f3 tg), z7, (tg_type tg), (tg_fe tg), (tg_many tg), (tg_deep tg), (tg_bits tg), (tg_flags tg), (tg_ab tg), (tg_idx tg), (tg_packets tg), (tg_left tg), (tg_like tg), (tg_ent tg)) px fa hb _  2 (sc_pos sc) (fon_ne hE hF)) rfl (Nat.le_of_ble_eq_true rfl) (by decide) (by decide) (by decide) (by decide) (fun E h2 n2 hx => aw_out rfl (by decide) (by decide) (by obtain ⟨s24, e24, rfl, rfl⟩ := hx; exact ⟨_, (fon_ex e24 hE).symm, rfl, rfl⟩)) (fun r24 h24 n24 hp24 => ?_)
    obtain ⟨z24, s24, e24, rfl, rfl, rfl⟩ := hp24
    exact (hF (fon_ok e24 hE).symm).elim
